section
-- ===== PART A: goes FIRST, ahead of the names: the tables' words, and 'selects' of the private methods out of them =====
/-- a private method of a class that the tables say can be made, by its rows of tables_1 -/
def lw_okq (q : MethodName × Nat) : Prop := (q.1.cls ≠ "java/lang/invoke/MethodHandle" ∧ q.1.cls ≠ "java/lang/invoke/VarHandle") ∧ Cond.instantiable q.1.cls q.2 ∈ tables_1 ∧ Cond.privateMethod q.1 ∈ tables_1 ∧ Cond.instanceMethod q.1 ∈ tables_1
theorem lw_p0 : lw_okq (⟨"QuakeServer$LastMessage", "now", "(I)I"⟩, 2) := ⟨⟨by decide +kernel, by decide +kernel⟩, List.mem_of_getElem? (i := 144) (by decide +kernel), List.mem_of_getElem? (i := 184) (by decide +kernel), List.mem_of_getElem? (i := 185) (by decide +kernel)⟩
theorem lw_p1 : lw_okq (⟨"java/lang/Throwable", "fillInStackTrace", "(I)Ljava/lang/Throwable;"⟩, 6) := ⟨⟨by decide +kernel, by decide +kernel⟩, List.mem_of_getElem? (i := 254) (by decide +kernel), List.mem_of_getElem? (i := 252) (by decide +kernel), List.mem_of_getElem? (i := 253) (by decide +kernel)⟩
theorem lw_p2 : lw_okq (⟨"QuakeServer$Machine", "perform", "(I)I"⟩, 11) := ⟨⟨by decide +kernel, by decide +kernel⟩, List.mem_of_getElem? (i := 72) (by decide +kernel), List.mem_of_getElem? (i := 443) (by decide +kernel), List.mem_of_getElem? (i := 444) (by decide +kernel)⟩
theorem lw_p3 : lw_okq (⟨"QuakeServer$Machine", "leaveEndedFunctions", "()V"⟩, 11) := ⟨⟨by decide +kernel, by decide +kernel⟩, List.mem_of_getElem? (i := 72) (by decide +kernel), List.mem_of_getElem? (i := 447) (by decide +kernel), List.mem_of_getElem? (i := 448) (by decide +kernel)⟩
theorem lw_p4 : lw_okq (⟨"QuakeServer$Machine", "step", "()V"⟩, 11) := ⟨⟨by decide +kernel, by decide +kernel⟩, List.mem_of_getElem? (i := 72) (by decide +kernel), List.mem_of_getElem? (i := 452) (by decide +kernel), List.mem_of_getElem? (i := 453) (by decide +kernel)⟩
theorem lw_p5 : lw_okq (⟨"QuakeServer$Machine", "enter", "(I)V"⟩, 11) := ⟨⟨by decide +kernel, by decide +kernel⟩, List.mem_of_getElem? (i := 72) (by decide +kernel), List.mem_of_getElem? (i := 461) (by decide +kernel), List.mem_of_getElem? (i := 462) (by decide +kernel)⟩
theorem lw_p6 : lw_okq (⟨"QuakeServer$Machine", "result", "(III)I"⟩, 11) := ⟨⟨by decide +kernel, by decide +kernel⟩, List.mem_of_getElem? (i := 72) (by decide +kernel), List.mem_of_getElem? (i := 466) (by decide +kernel), List.mem_of_getElem? (i := 467) (by decide +kernel)⟩
theorem lw_p7 : lw_okq (⟨"QuakeServer$Machine", "draw", "()I"⟩, 11) := ⟨⟨by decide +kernel, by decide +kernel⟩, List.mem_of_getElem? (i := 72) (by decide +kernel), List.mem_of_getElem? (i := 485) (by decide +kernel), List.mem_of_getElem? (i := 486) (by decide +kernel)⟩
theorem lw_p8 : lw_okq (⟨"QuakeServer$Mover", "travel", "(II)V"⟩, 6) := ⟨⟨by decide +kernel, by decide +kernel⟩, List.mem_of_getElem? (i := 118) (by decide +kernel), List.mem_of_getElem? (i := 518) (by decide +kernel), List.mem_of_getElem? (i := 519) (by decide +kernel)⟩
theorem lw_p9 : lw_okq (⟨"QuakeServer$Mover", "go", "(II)I"⟩, 6) := ⟨⟨by decide +kernel, by decide +kernel⟩, List.mem_of_getElem? (i := 118) (by decide +kernel), List.mem_of_getElem? (i := 522) (by decide +kernel), List.mem_of_getElem? (i := 523) (by decide +kernel)⟩
theorem lw_p10 : lw_okq (⟨"QuakeServer$Mover", "meetWalls", "(IIZ)V"⟩, 6) := ⟨⟨by decide +kernel, by decide +kernel⟩, List.mem_of_getElem? (i := 118) (by decide +kernel), List.mem_of_getElem? (i := 532) (by decide +kernel), List.mem_of_getElem? (i := 533) (by decide +kernel)⟩
theorem lw_p11 : lw_okq (⟨"QuakeServer$Entities", "sizeUsed", "(I)I"⟩, 2) := ⟨⟨by decide +kernel, by decide +kernel⟩, List.mem_of_getElem? (i := 25) (by decide +kernel), List.mem_of_getElem? (i := 540) (by decide +kernel), List.mem_of_getElem? (i := 541) (by decide +kernel)⟩
theorem lw_p12 : lw_okq (⟨"QuakeServer$Mover", "meet", "(II)V"⟩, 6) := ⟨⟨by decide +kernel, by decide +kernel⟩, List.mem_of_getElem? (i := 118) (by decide +kernel), List.mem_of_getElem? (i := 562) (by decide +kernel), List.mem_of_getElem? (i := 563) (by decide +kernel)⟩
theorem lw_p13 : lw_okq (⟨"QuakeServer$Mover", "meetEntities", "(IIZ)V"⟩, 6) := ⟨⟨by decide +kernel, by decide +kernel⟩, List.mem_of_getElem? (i := 118) (by decide +kernel), List.mem_of_getElem? (i := 566) (by decide +kernel), List.mem_of_getElem? (i := 567) (by decide +kernel)⟩
theorem lw_p14 : lw_okq (⟨"QuakeServer$Mover", "mayBlock", "(II)Z"⟩, 6) := ⟨⟨by decide +kernel, by decide +kernel⟩, List.mem_of_getElem? (i := 118) (by decide +kernel), List.mem_of_getElem? (i := 570) (by decide +kernel), List.mem_of_getElem? (i := 571) (by decide +kernel)⟩
theorem lw_p15 : lw_okq (⟨"QuakeServer$Mover", "touchTriggers", "(I)V"⟩, 6) := ⟨⟨by decide +kernel, by decide +kernel⟩, List.mem_of_getElem? (i := 118) (by decide +kernel), List.mem_of_getElem? (i := 581) (by decide +kernel), List.mem_of_getElem? (i := 582) (by decide +kernel)⟩
def lw_privs_1 : List (MethodName × Nat) := [(⟨"QuakeServer$LastMessage", "now", "(I)I"⟩, 2), (⟨"java/lang/Throwable", "fillInStackTrace", "(I)Ljava/lang/Throwable;"⟩, 6), (⟨"QuakeServer$Machine", "perform", "(I)I"⟩, 11), (⟨"QuakeServer$Machine", "leaveEndedFunctions", "()V"⟩, 11), (⟨"QuakeServer$Machine", "step", "()V"⟩, 11), (⟨"QuakeServer$Machine", "enter", "(I)V"⟩, 11), (⟨"QuakeServer$Machine", "result", "(III)I"⟩, 11), (⟨"QuakeServer$Machine", "draw", "()I"⟩, 11), (⟨"QuakeServer$Mover", "travel", "(II)V"⟩, 6), (⟨"QuakeServer$Mover", "go", "(II)I"⟩, 6), (⟨"QuakeServer$Mover", "meetWalls", "(IIZ)V"⟩, 6), (⟨"QuakeServer$Entities", "sizeUsed", "(I)I"⟩, 2), (⟨"QuakeServer$Mover", "meet", "(II)V"⟩, 6), (⟨"QuakeServer$Mover", "meetEntities", "(IIZ)V"⟩, 6), (⟨"QuakeServer$Mover", "mayBlock", "(II)Z"⟩, 6), (⟨"QuakeServer$Mover", "touchTriggers", "(I)V"⟩, 6)]
theorem lw_r1 : ∀ q ∈ lw_privs_1, lw_okq q := List.forall_mem_cons.mpr ⟨lw_p0, List.forall_mem_cons.mpr ⟨lw_p1, List.forall_mem_cons.mpr ⟨lw_p2, List.forall_mem_cons.mpr ⟨lw_p3, List.forall_mem_cons.mpr ⟨lw_p4, List.forall_mem_cons.mpr ⟨lw_p5, List.forall_mem_cons.mpr ⟨lw_p6, List.forall_mem_cons.mpr ⟨lw_p7, List.forall_mem_cons.mpr ⟨lw_p8, List.forall_mem_cons.mpr ⟨lw_p9, List.forall_mem_cons.mpr ⟨lw_p10, List.forall_mem_cons.mpr ⟨lw_p11, List.forall_mem_cons.mpr ⟨lw_p12, List.forall_mem_cons.mpr ⟨lw_p13, List.forall_mem_cons.mpr ⟨lw_p14, List.forall_mem_cons.mpr ⟨lw_p15, fun _ h => absurd h List.not_mem_nil⟩⟩⟩⟩⟩⟩⟩⟩⟩⟩⟩⟩⟩⟩⟩⟩
theorem lw_p16 : lw_okq (⟨"QuakeServer$Mover", "think", "(I)V"⟩, 6) := ⟨⟨by decide +kernel, by decide +kernel⟩, List.mem_of_getElem? (i := 118) (by decide +kernel), List.mem_of_getElem? (i := 585) (by decide +kernel), List.mem_of_getElem? (i := 586) (by decide +kernel)⟩
theorem lw_p17 : lw_okq (⟨"QuakeServerModel", "fail", "(I)I"⟩, 22) := ⟨⟨by decide +kernel, by decide +kernel⟩, List.mem_of_getElem? (i := 613) (by decide +kernel), List.mem_of_getElem? (i := 698) (by decide +kernel), List.mem_of_getElem? (i := 699) (by decide +kernel)⟩
theorem lw_p18 : lw_okq (⟨"QuakeServerModel", "create", "()I"⟩, 22) := ⟨⟨by decide +kernel, by decide +kernel⟩, List.mem_of_getElem? (i := 613) (by decide +kernel), List.mem_of_getElem? (i := 719) (by decide +kernel), List.mem_of_getElem? (i := 720) (by decide +kernel)⟩
theorem lw_p19 : lw_okq (⟨"QuakeServerModel", "gone", "(I)Z"⟩, 22) := ⟨⟨by decide +kernel, by decide +kernel⟩, List.mem_of_getElem? (i := 613) (by decide +kernel), List.mem_of_getElem? (i := 731) (by decide +kernel), List.mem_of_getElem? (i := 732) (by decide +kernel)⟩
theorem lw_p20 : lw_okq (⟨"QuakeServerModel", "perform", "(IJJZ)I"⟩, 22) := ⟨⟨by decide +kernel, by decide +kernel⟩, List.mem_of_getElem? (i := 613) (by decide +kernel), List.mem_of_getElem? (i := 758) (by decide +kernel), List.mem_of_getElem? (i := 759) (by decide +kernel)⟩
theorem lw_p21 : lw_okq (⟨"QuakeServerModel", "instructions", "(I)I"⟩, 22) := ⟨⟨by decide +kernel, by decide +kernel⟩, List.mem_of_getElem? (i := 613) (by decide +kernel), List.mem_of_getElem? (i := 762) (by decide +kernel), List.mem_of_getElem? (i := 763) (by decide +kernel)⟩
theorem lw_p22 : lw_okq (⟨"QuakeServerModel", "unwound", "(I)I"⟩, 22) := ⟨⟨by decide +kernel, by decide +kernel⟩, List.mem_of_getElem? (i := 613) (by decide +kernel), List.mem_of_getElem? (i := 766) (by decide +kernel), List.mem_of_getElem? (i := 767) (by decide +kernel)⟩
theorem lw_p23 : lw_okq (⟨"QuakeServerModel", "instruction", "(I)V"⟩, 22) := ⟨⟨by decide +kernel, by decide +kernel⟩, List.mem_of_getElem? (i := 613) (by decide +kernel), List.mem_of_getElem? (i := 770) (by decide +kernel), List.mem_of_getElem? (i := 771) (by decide +kernel)⟩
theorem lw_p24 : lw_okq (⟨"QuakeServerModel", "given", "(IJI)J"⟩, 22) := ⟨⟨by decide +kernel, by decide +kernel⟩, List.mem_of_getElem? (i := 613) (by decide +kernel), List.mem_of_getElem? (i := 780) (by decide +kernel), List.mem_of_getElem? (i := 781) (by decide +kernel)⟩
theorem lw_p25 : lw_okq (⟨"QuakeServerModel", "behind", "(I)J"⟩, 22) := ⟨⟨by decide +kernel, by decide +kernel⟩, List.mem_of_getElem? (i := 613) (by decide +kernel), List.mem_of_getElem? (i := 787) (by decide +kernel), List.mem_of_getElem? (i := 788) (by decide +kernel)⟩
theorem lw_p26 : lw_okq (⟨"QuakeServerModel", "drawn", "()J"⟩, 22) := ⟨⟨by decide +kernel, by decide +kernel⟩, List.mem_of_getElem? (i := 613) (by decide +kernel), List.mem_of_getElem? (i := 792) (by decide +kernel), List.mem_of_getElem? (i := 793) (by decide +kernel)⟩
theorem lw_p27 : lw_okq (⟨"QuakeServerModel", "turn", "(I)V"⟩, 22) := ⟨⟨by decide +kernel, by decide +kernel⟩, List.mem_of_getElem? (i := 613) (by decide +kernel), List.mem_of_getElem? (i := 804) (by decide +kernel), List.mem_of_getElem? (i := 805) (by decide +kernel)⟩
theorem lw_p28 : lw_okq (⟨"QuakeServerModel", "go", "(II)V"⟩, 22) := ⟨⟨by decide +kernel, by decide +kernel⟩, List.mem_of_getElem? (i := 613) (by decide +kernel), List.mem_of_getElem? (i := 809) (by decide +kernel), List.mem_of_getElem? (i := 810) (by decide +kernel)⟩
theorem lw_p29 : lw_okq (⟨"QuakeServerModel", "blockers", "(IIZ)V"⟩, 22) := ⟨⟨by decide +kernel, by decide +kernel⟩, List.mem_of_getElem? (i := 613) (by decide +kernel), List.mem_of_getElem? (i := 813) (by decide +kernel), List.mem_of_getElem? (i := 814) (by decide +kernel)⟩
theorem lw_p30 : lw_okq (⟨"QuakeServerModel", "half", "(I)J"⟩, 22) := ⟨⟨by decide +kernel, by decide +kernel⟩, List.mem_of_getElem? (i := 613) (by decide +kernel), List.mem_of_getElem? (i := 817) (by decide +kernel), List.mem_of_getElem? (i := 818) (by decide +kernel)⟩
theorem lw_p31 : lw_okq (⟨"QuakeServerModel", "consider", "(IJZJJ)V"⟩, 22) := ⟨⟨by decide +kernel, by decide +kernel⟩, List.mem_of_getElem? (i := 613) (by decide +kernel), List.mem_of_getElem? (i := 825) (by decide +kernel), List.mem_of_getElem? (i := 826) (by decide +kernel)⟩
def lw_privs_2 : List (MethodName × Nat) := [(⟨"QuakeServer$Mover", "think", "(I)V"⟩, 6), (⟨"QuakeServerModel", "fail", "(I)I"⟩, 22), (⟨"QuakeServerModel", "create", "()I"⟩, 22), (⟨"QuakeServerModel", "gone", "(I)Z"⟩, 22), (⟨"QuakeServerModel", "perform", "(IJJZ)I"⟩, 22), (⟨"QuakeServerModel", "instructions", "(I)I"⟩, 22), (⟨"QuakeServerModel", "unwound", "(I)I"⟩, 22), (⟨"QuakeServerModel", "instruction", "(I)V"⟩, 22), (⟨"QuakeServerModel", "given", "(IJI)J"⟩, 22), (⟨"QuakeServerModel", "behind", "(I)J"⟩, 22), (⟨"QuakeServerModel", "drawn", "()J"⟩, 22), (⟨"QuakeServerModel", "turn", "(I)V"⟩, 22), (⟨"QuakeServerModel", "go", "(II)V"⟩, 22), (⟨"QuakeServerModel", "blockers", "(IIZ)V"⟩, 22), (⟨"QuakeServerModel", "half", "(I)J"⟩, 22), (⟨"QuakeServerModel", "consider", "(IJZJJ)V"⟩, 22)]
theorem lw_r2 : ∀ q ∈ lw_privs_2, lw_okq q := List.forall_mem_cons.mpr ⟨lw_p16, List.forall_mem_cons.mpr ⟨lw_p17, List.forall_mem_cons.mpr ⟨lw_p18, List.forall_mem_cons.mpr ⟨lw_p19, List.forall_mem_cons.mpr ⟨lw_p20, List.forall_mem_cons.mpr ⟨lw_p21, List.forall_mem_cons.mpr ⟨lw_p22, List.forall_mem_cons.mpr ⟨lw_p23, List.forall_mem_cons.mpr ⟨lw_p24, List.forall_mem_cons.mpr ⟨lw_p25, List.forall_mem_cons.mpr ⟨lw_p26, List.forall_mem_cons.mpr ⟨lw_p27, List.forall_mem_cons.mpr ⟨lw_p28, List.forall_mem_cons.mpr ⟨lw_p29, List.forall_mem_cons.mpr ⟨lw_p30, List.forall_mem_cons.mpr ⟨lw_p31, fun _ h => absurd h List.not_mem_nil⟩⟩⟩⟩⟩⟩⟩⟩⟩⟩⟩⟩⟩⟩⟩⟩
theorem lw_p32 : lw_okq (⟨"QuakeServerModel", "meets", "(III)Z"⟩, 22) := ⟨⟨by decide +kernel, by decide +kernel⟩, List.mem_of_getElem? (i := 613) (by decide +kernel), List.mem_of_getElem? (i := 829) (by decide +kernel), List.mem_of_getElem? (i := 830) (by decide +kernel)⟩
theorem lw_p33 : lw_okq (⟨"QuakeServerModel", "touch", "(II)V"⟩, 22) := ⟨⟨by decide +kernel, by decide +kernel⟩, List.mem_of_getElem? (i := 613) (by decide +kernel), List.mem_of_getElem? (i := 834) (by decide +kernel), List.mem_of_getElem? (i := 835) (by decide +kernel)⟩
theorem lw_p34 : lw_okq (⟨"QuakeServerModel", "triggers", "(I)V"⟩, 22) := ⟨⟨by decide +kernel, by decide +kernel⟩, List.mem_of_getElem? (i := 613) (by decide +kernel), List.mem_of_getElem? (i := 838) (by decide +kernel), List.mem_of_getElem? (i := 839) (by decide +kernel)⟩
theorem lw_p35 : lw_okq (⟨"QuakeServerModel", "present", "()I"⟩, 22) := ⟨⟨by decide +kernel, by decide +kernel⟩, List.mem_of_getElem? (i := 613) (by decide +kernel), List.mem_of_getElem? (i := 843) (by decide +kernel), List.mem_of_getElem? (i := 844) (by decide +kernel)⟩
theorem lw_p36 : lw_okq (⟨"QuakeServerModel", "changed", "(II)Z"⟩, 22) := ⟨⟨by decide +kernel, by decide +kernel⟩, List.mem_of_getElem? (i := 613) (by decide +kernel), List.mem_of_getElem? (i := 851) (by decide +kernel), List.mem_of_getElem? (i := 852) (by decide +kernel)⟩
def lw_privs_3 : List (MethodName × Nat) := [(⟨"QuakeServerModel", "meets", "(III)Z"⟩, 22), (⟨"QuakeServerModel", "touch", "(II)V"⟩, 22), (⟨"QuakeServerModel", "triggers", "(I)V"⟩, 22), (⟨"QuakeServerModel", "present", "()I"⟩, 22), (⟨"QuakeServerModel", "changed", "(II)Z"⟩, 22)]
theorem lw_r3 : ∀ q ∈ lw_privs_3, lw_okq q := List.forall_mem_cons.mpr ⟨lw_p32, List.forall_mem_cons.mpr ⟨lw_p33, List.forall_mem_cons.mpr ⟨lw_p34, List.forall_mem_cons.mpr ⟨lw_p35, List.forall_mem_cons.mpr ⟨lw_p36, fun _ h => absurd h List.not_mem_nil⟩⟩⟩⟩⟩
def lw_privs : List (MethodName × Nat) := lw_privs_1 ++ (lw_privs_2 ++ (lw_privs_3))
def lw_tbl : List Cond := k2_sels lw_privs ++ tables_1
theorem lw_privs_ok : ∀ q ∈ lw_privs, lw_okq q := by
  show ∀ q ∈ lw_privs_1 ++ (lw_privs_2 ++ (lw_privs_3)), lw_okq q
  exact List.forall_mem_append.mpr ⟨lw_r1, List.forall_mem_append.mpr ⟨lw_r2, lw_r3⟩⟩
end
section
abbrev R_E : String := "QuakeServer$Entities"
abbrev R_W : String := "QuakeServer$Walls"
abbrev R_P : String := "QuakeServer$Program"
abbrev R_M : String := "QuakeServer$Machine"
abbrev R_V : String := "QuakeServer$Mover"
abbrev R_L : String := "QuakeServer$LastMessage"
abbrev R_Q : String := "QuakeServer"
abbrev R_N : String := "QuakeServerModel"
abbrev R_A : String := "QuakeServerLaw"
abbrev R_J : String := "java/lang/Math"
def T_E : u_T := fun k => match k with
  | 0 => ("QuakeServer$Entities", "there", "[Z", true)
  | _ => ("QuakeServer$Entities", "fields", "[I", true)
def ty_E : Nat → FieldType := fun k => match k with
  | 0 => .array .boolean
  | _ => .array .int
theorem nm_E : ∀ a, a < 2 → ∀ b, b < 2 → a ≠ b → (T_E a).2.1 ≠ (T_E b).2.1 := by decide +kernel
theorem ty_E_ok : ∀ k, k < 2 → parseFieldDescriptor (T_E k).2.2.1 = some (ty_E k) := by decide +kernel
def T_W : u_T := fun k => match k with
  | 0 => ("QuakeServer$Walls", "lows", "[I", true)
  | 1 => ("QuakeServer$Walls", "highs", "[I", true)
  | _ => ("QuakeServer$Walls", "number", "I", false)
def ty_W : Nat → FieldType := fun k => match k with
  | 0 => .array .int
  | 1 => .array .int
  | _ => .int
theorem nm_W : ∀ a, a < 3 → ∀ b, b < 3 → a ≠ b → (T_W a).2.1 ≠ (T_W b).2.1 := by decide +kernel
theorem ty_W_ok : ∀ k, k < 3 → parseFieldDescriptor (T_W k).2.2.1 = some (ty_W k) := by decide +kernel
def T_P : u_T := fun k => match k with
  | 0 => ("QuakeServer$Program", "parts", "[I", true)
  | _ => ("QuakeServer$Program", "lengths", "[I", true)
def ty_P : Nat → FieldType := fun k => match k with
  | 0 => .array .int
  | _ => .array .int
theorem nm_P : ∀ a, a < 2 → ∀ b, b < 2 → a ≠ b → (T_P a).2.1 ≠ (T_P b).2.1 := by decide +kernel
theorem ty_P_ok : ∀ k, k < 2 → parseFieldDescriptor (T_P k).2.2.1 = some (ty_P k) := by decide +kernel
def T_M : u_T := fun k => match k with
  | 0 => ("QuakeServer$Machine", "entities", "LQuakeServer$Entities;", true)
  | 1 => ("QuakeServer$Machine", "program", "LQuakeServer$Program;", true)
  | 2 => ("QuakeServer$Machine", "globals", "[I", true)
  | 3 => ("QuakeServer$Machine", "openFunctions", "[I", true)
  | 4 => ("QuakeServer$Machine", "openPlaces", "[I", true)
  | 5 => ("QuakeServer$Machine", "depth", "I", false)
  | 6 => ("QuakeServer$Machine", "tooDeep", "Z", false)
  | 7 => ("QuakeServer$Machine", "time", "I", false)
  | 8 => ("QuakeServer$Machine", "drawState", "I", false)
  | 9 => ("QuakeServer$Machine", "runaways", "I", false)
  | _ => ("QuakeServer$Machine", "workingRuns", "I", false)
def ty_M : Nat → FieldType := fun k => match k with
  | 0 => .object "QuakeServer$Entities"
  | 1 => .object "QuakeServer$Program"
  | 2 => .array .int
  | 3 => .array .int
  | 4 => .array .int
  | 5 => .int
  | 6 => .boolean
  | 7 => .int
  | 8 => .int
  | 9 => .int
  | _ => .int
theorem nm_M : ∀ a, a < 11 → ∀ b, b < 11 → a ≠ b → (T_M a).2.1 ≠ (T_M b).2.1 := by decide +kernel
theorem ty_M_ok : ∀ k, k < 11 → parseFieldDescriptor (T_M k).2.2.1 = some (ty_M k) := by decide +kernel
def T_V : u_T := fun k => match k with
  | 0 => ("QuakeServer$Mover", "entities", "LQuakeServer$Entities;", true)
  | 1 => ("QuakeServer$Mover", "walls", "LQuakeServer$Walls;", true)
  | 2 => ("QuakeServer$Mover", "machine", "LQuakeServer$Machine;", true)
  | 3 => ("QuakeServer$Mover", "hits", "I", false)
  | 4 => ("QuakeServer$Mover", "reach", "I", false)
  | _ => ("QuakeServer$Mover", "met", "I", false)
def ty_V : Nat → FieldType := fun k => match k with
  | 0 => .object "QuakeServer$Entities"
  | 1 => .object "QuakeServer$Walls"
  | 2 => .object "QuakeServer$Machine"
  | 3 => .int
  | 4 => .int
  | _ => .int
theorem nm_V : ∀ a, a < 6 → ∀ b, b < 6 → a ≠ b → (T_V a).2.1 ≠ (T_V b).2.1 := by decide +kernel
theorem ty_V_ok : ∀ k, k < 6 → parseFieldDescriptor (T_V k).2.2.1 = some (ty_V k) := by decide +kernel
def T_L : u_T := fun k => match k with
  | 0 => ("QuakeServer$LastMessage", "entities", "LQuakeServer$Entities;", true)
  | _ => ("QuakeServer$LastMessage", "told", "[I", true)
def ty_L : Nat → FieldType := fun k => match k with
  | 0 => .object "QuakeServer$Entities"
  | _ => .array .int
theorem nm_L : ∀ a, a < 2 → ∀ b, b < 2 → a ≠ b → (T_L a).2.1 ≠ (T_L b).2.1 := by decide +kernel
theorem ty_L_ok : ∀ k, k < 2 → parseFieldDescriptor (T_L k).2.2.1 = some (ty_L k) := by decide +kernel
def T_Q : u_T := fun k => match k with
  | 0 => ("QuakeServer", "entities", "LQuakeServer$Entities;", true)
  | 1 => ("QuakeServer", "walls", "LQuakeServer$Walls;", true)
  | 2 => ("QuakeServer", "program", "LQuakeServer$Program;", true)
  | 3 => ("QuakeServer", "machine", "LQuakeServer$Machine;", true)
  | 4 => ("QuakeServer", "mover", "LQuakeServer$Mover;", true)
  | _ => ("QuakeServer", "lastMessage", "LQuakeServer$LastMessage;", true)
def ty_Q : Nat → FieldType := fun k => match k with
  | 0 => .object "QuakeServer$Entities"
  | 1 => .object "QuakeServer$Walls"
  | 2 => .object "QuakeServer$Program"
  | 3 => .object "QuakeServer$Machine"
  | 4 => .object "QuakeServer$Mover"
  | _ => .object "QuakeServer$LastMessage"
theorem nm_Q : ∀ a, a < 6 → ∀ b, b < 6 → a ≠ b → (T_Q a).2.1 ≠ (T_Q b).2.1 := by decide +kernel
theorem ty_Q_ok : ∀ k, k < 6 → parseFieldDescriptor (T_Q k).2.2.1 = some (ty_Q k) := by decide +kernel
def T_N : u_T := fun k => match k with
  | 0 => ("QuakeServerModel", "thrown", "I", false)
  | 1 => ("QuakeServerModel", "f", "[J", true)
  | 2 => ("QuakeServerModel", "there", "[Z", true)
  | 3 => ("QuakeServerModel", "told", "[J", true)
  | 4 => ("QuakeServerModel", "toldThere", "[Z", true)
  | 5 => ("QuakeServerModel", "walls", "[J", true)
  | 6 => ("QuakeServerModel", "wallCount", "I", false)
  | 7 => ("QuakeServerModel", "op", "[I", true)
  | 8 => ("QuakeServerModel", "ia", "[I", true)
  | 9 => ("QuakeServerModel", "ib", "[I", true)
  | 10 => ("QuakeServerModel", "ic", "[I", true)
  | 11 => ("QuakeServerModel", "size", "[I", true)
  | 12 => ("QuakeServerModel", "g", "[J", true)
  | 13 => ("QuakeServerModel", "time", "J", false)
  | 14 => ("QuakeServerModel", "state", "I", false)
  | 15 => ("QuakeServerModel", "runaways", "I", false)
  | 16 => ("QuakeServerModel", "runs", "I", false)
  | 17 => ("QuakeServerModel", "hits", "I", false)
  | 18 => ("QuakeServerModel", "back", "[I", true)
  | 19 => ("QuakeServerModel", "hit", "I", false)
  | 20 => ("QuakeServerModel", "distance", "J", false)
  | _ => ("QuakeServerModel", "depth", "I", false)
def ty_N : Nat → FieldType := fun k => match k with
  | 0 => .int
  | 1 => .array .long
  | 2 => .array .boolean
  | 3 => .array .long
  | 4 => .array .boolean
  | 5 => .array .long
  | 6 => .int
  | 7 => .array .int
  | 8 => .array .int
  | 9 => .array .int
  | 10 => .array .int
  | 11 => .array .int
  | 12 => .array .long
  | 13 => .long
  | 14 => .int
  | 15 => .int
  | 16 => .int
  | 17 => .int
  | 18 => .array .int
  | 19 => .int
  | 20 => .long
  | _ => .int
theorem nm_N : ∀ a, a < 22 → ∀ b, b < 22 → a ≠ b → (T_N a).2.1 ≠ (T_N b).2.1 := by decide +kernel
theorem ty_N_ok : ∀ k, k < 22 → parseFieldDescriptor (T_N k).2.2.1 = some (ty_N k) := by decide +kernel
abbrev vwCl : List vw_C := [(R_E, T_E, 2), (R_W, T_W, 3), (R_P, T_P, 2), (R_M, T_M, 11), (R_V, T_V, 6), (R_L, T_L, 2), (R_Q, T_Q, 6), (R_N, T_N, 22)]
abbrev b_Q_init : ByteArray := prog_1_method_1_code
abbrev y_Q_init : MethodName := ⟨"QuakeServer", "<init>", "()V"⟩
abbrev b_E_init : ByteArray := prog_2_method_1_code
abbrev y_E_init : MethodName := ⟨"QuakeServer$Entities", "<init>", "()V"⟩
abbrev b_W_init : ByteArray := prog_7_method_1_code
abbrev y_W_init : MethodName := ⟨"QuakeServer$Walls", "<init>", "()V"⟩
abbrev b_P_init : ByteArray := prog_6_method_1_code
abbrev y_P_init : MethodName := ⟨"QuakeServer$Program", "<init>", "()V"⟩
abbrev b_M_init : ByteArray := prog_4_method_1_code
abbrev y_M_init : MethodName := ⟨"QuakeServer$Machine", "<init>", "(LQuakeServer$Entities;LQuakeServer$Program;)V"⟩
abbrev b_V_init : ByteArray := prog_5_method_1_code
abbrev y_V_init : MethodName := ⟨"QuakeServer$Mover", "<init>", "(LQuakeServer$Entities;LQuakeServer$Walls;LQuakeServer$Machine;)V"⟩
abbrev b_L_init : ByteArray := prog_3_method_1_code
abbrev y_L_init : MethodName := ⟨"QuakeServer$LastMessage", "<init>", "(LQuakeServer$Entities;)V"⟩
abbrev b_Q_changes : ByteArray := prog_1_method_12_code
abbrev y_Q_changes : MethodName := ⟨"QuakeServer", "changes", "()I"⟩
abbrev b_L_differences : ByteArray := prog_3_method_3_code
abbrev y_L_differences : MethodName := ⟨"QuakeServer$LastMessage", "differences", "()I"⟩
abbrev b_L_now : ByteArray := prog_3_method_2_code
abbrev y_L_now : MethodName := ⟨"QuakeServer$LastMessage", "now", "(I)I"⟩
abbrev b_E_isThere : ByteArray := prog_2_method_2_code
abbrev y_E_isThere : MethodName := ⟨"QuakeServer$Entities", "isThere", "(I)Z"⟩
abbrev b_E_field : ByteArray := prog_2_method_7_code
abbrev y_E_field : MethodName := ⟨"QuakeServer$Entities", "field", "(II)I"⟩
abbrev b_Q_message : ByteArray := prog_1_method_14_code
abbrev y_Q_message : MethodName := ⟨"QuakeServer", "message", "()I"⟩
abbrev b_L_tellAll : ByteArray := prog_3_method_5_code
abbrev y_L_tellAll : MethodName := ⟨"QuakeServer$LastMessage", "tellAll", "()V"⟩
abbrev b_A_wall : ByteArray := method_3_code
abbrev y_A_wall : MethodName := ⟨"QuakeServerLaw", "wall", "(LQuakeServer;IIII[J)I"⟩
abbrev b_Q_wall : ByteArray := prog_1_method_2_code
abbrev y_Q_wall : MethodName := ⟨"QuakeServer", "wall", "(IIII)I"⟩
abbrev b_Q_isInWorld : ByteArray := prog_1_method_18_code
abbrev y_Q_isInWorld : MethodName := ⟨"QuakeServer", "isInWorld", "(I)Z"⟩
abbrev b_W_add : ByteArray := prog_7_method_2_code
abbrev y_W_add : MethodName := ⟨"QuakeServer$Walls", "add", "(IIII)I"⟩
abbrev b_A_instr : ByteArray := method_4_code
abbrev y_A_instr : MethodName := ⟨"QuakeServerLaw", "instr", "(LQuakeServer;IIIII[J)I"⟩
abbrev b_Q_instr : ByteArray := prog_1_method_3_code
abbrev y_Q_instr : MethodName := ⟨"QuakeServer", "instr", "(IIIII)I"⟩
abbrev b_Q_isBelow : ByteArray := prog_1_method_16_code
abbrev y_Q_isBelow : MethodName := ⟨"QuakeServer", "isBelow", "(II)Z"⟩
abbrev b_P_isSound : ByteArray := prog_6_method_2_code
abbrev y_P_isSound : MethodName := ⟨"QuakeServer$Program", "isSound", "(IIII)Z"⟩
abbrev b_P_length : ByteArray := prog_6_method_3_code
abbrev y_P_length : MethodName := ⟨"QuakeServer$Program", "length", "(I)I"⟩
abbrev b_P_add : ByteArray := prog_6_method_5_code
abbrev y_P_add : MethodName := ⟨"QuakeServer$Program", "add", "(IIIII)I"⟩
abbrev b_P_firstPart : ByteArray := prog_6_method_4_code
abbrev y_P_firstPart : MethodName := ⟨"QuakeServer$Program", "firstPart", "(II)I"⟩
abbrev b_A_spawn : ByteArray := method_5_code
abbrev y_A_spawn : MethodName := ⟨"QuakeServerLaw", "spawn", "(LQuakeServer;DDD[J)I"⟩
abbrev b_Q_spawn : ByteArray := prog_1_method_4_code
abbrev y_Q_spawn : MethodName := ⟨"QuakeServer", "spawn", "(DDD)I"⟩
abbrev b_Q_isNumber : ByteArray := prog_1_method_19_code
abbrev y_Q_isNumber : MethodName := ⟨"QuakeServer", "isNumber", "(D)Z"⟩
abbrev b_E_create : ByteArray := prog_2_method_4_code
abbrev y_E_create : MethodName := ⟨"QuakeServer$Entities", "create", "()I"⟩
abbrev b_Q_eighthsOf : ByteArray := prog_1_method_20_code
abbrev y_Q_eighthsOf : MethodName := ⟨"QuakeServer", "eighthsOf", "(D)I"⟩
abbrev b_E_put : ByteArray := prog_2_method_9_code
abbrev y_E_put : MethodName := ⟨"QuakeServer$Entities", "put", "(III)V"⟩
abbrev b_A_remove : ByteArray := method_6_code
abbrev y_A_remove : MethodName := ⟨"QuakeServerLaw", "remove", "(LQuakeServer;I[J)I"⟩
abbrev b_Q_remove : ByteArray := prog_1_method_5_code
abbrev y_Q_remove : MethodName := ⟨"QuakeServer", "remove", "(I)I"⟩
abbrev b_E_erase : ByteArray := prog_2_method_5_code
abbrev y_E_erase : MethodName := ⟨"QuakeServer$Entities", "erase", "(I)V"⟩
abbrev b_A_set : ByteArray := method_7_code
abbrev y_A_set : MethodName := ⟨"QuakeServerLaw", "set", "(LQuakeServer;IID[D)I"⟩
abbrev b_Q_set : ByteArray := prog_1_method_6_code
abbrev y_Q_set : MethodName := ⟨"QuakeServer", "set", "(IID)D"⟩
abbrev b_Q_valueOf : ByteArray := prog_1_method_21_code
abbrev y_Q_valueOf : MethodName := ⟨"QuakeServer", "valueOf", "(I)D"⟩
abbrev b_A_get : ByteArray := method_8_code
abbrev y_A_get : MethodName := ⟨"QuakeServerLaw", "get", "(LQuakeServer;II[D)I"⟩
abbrev b_Q_get : ByteArray := prog_1_method_7_code
abbrev y_Q_get : MethodName := ⟨"QuakeServer", "get", "(II)D"⟩
abbrev b_A_setGlobal : ByteArray := method_9_code
abbrev y_A_setGlobal : MethodName := ⟨"QuakeServerLaw", "setGlobal", "(LQuakeServer;II[J)I"⟩
abbrev b_Q_setGlobal : ByteArray := prog_1_method_8_code
abbrev y_Q_setGlobal : MethodName := ⟨"QuakeServer", "setGlobal", "(II)I"⟩
abbrev b_A_global : ByteArray := method_10_code
abbrev y_A_global : MethodName := ⟨"QuakeServerLaw", "global", "(LQuakeServer;I[J)I"⟩
abbrev b_Q_global : ByteArray := prog_1_method_9_code
abbrev y_Q_global : MethodName := ⟨"QuakeServer", "global", "(I)I"⟩
abbrev b_A_run : ByteArray := method_11_code
abbrev y_A_run : MethodName := ⟨"QuakeServerLaw", "run", "(LQuakeServer;III[J)I"⟩
abbrev b_Q_run : ByteArray := prog_1_method_10_code
abbrev y_Q_run : MethodName := ⟨"QuakeServer", "run", "(III)I"⟩
abbrev b_Q_isEntityOrWorld : ByteArray := prog_1_method_17_code
abbrev y_Q_isEntityOrWorld : MethodName := ⟨"QuakeServer", "isEntityOrWorld", "(I)Z"⟩
abbrev b_M_start : ByteArray := prog_4_method_3_code
abbrev y_M_start : MethodName := ⟨"QuakeServer$Machine", "start", "(III)I"⟩
abbrev b_M_perform : ByteArray := prog_4_method_4_code
abbrev y_M_perform : MethodName := ⟨"QuakeServer$Machine", "perform", "(I)I"⟩
abbrev b_M_leaveEndedFunctions : ByteArray := prog_4_method_5_code
abbrev y_M_leaveEndedFunctions : MethodName := ⟨"QuakeServer$Machine", "leaveEndedFunctions", "()V"⟩
abbrev b_M_step : ByteArray := prog_4_method_6_code
abbrev y_M_step : MethodName := ⟨"QuakeServer$Machine", "step", "()V"⟩
abbrev b_Q_wholeOf : ByteArray := prog_1_method_22_code
abbrev y_Q_wholeOf : MethodName := ⟨"QuakeServer", "wholeOf", "(I)I"⟩
abbrev b_M_enter : ByteArray := prog_4_method_7_code
abbrev y_M_enter : MethodName := ⟨"QuakeServer$Machine", "enter", "(I)V"⟩
abbrev b_M_result : ByteArray := prog_4_method_8_code
abbrev y_M_result : MethodName := ⟨"QuakeServer$Machine", "result", "(III)I"⟩
abbrev b_Q_inRange : ByteArray := prog_1_method_23_code
abbrev y_Q_inRange : MethodName := ⟨"QuakeServer", "inRange", "(J)I"⟩
abbrev b_J_floorDiv_JJJ : ByteArray := prog_13_method_49_code
abbrev y_J_floorDiv_JJJ : MethodName := ⟨"java/lang/Math", "floorDiv", "(JJ)J"⟩
abbrev b_E_firstBehind : ByteArray := prog_2_method_6_code
abbrev y_E_firstBehind : MethodName := ⟨"QuakeServer$Entities", "firstBehind", "(I)I"⟩
abbrev b_M_draw : ByteArray := prog_4_method_9_code
abbrev y_M_draw : MethodName := ⟨"QuakeServer$Machine", "draw", "()I"⟩
abbrev b_A_tick : ByteArray := method_12_code
abbrev y_A_tick : MethodName := ⟨"QuakeServerLaw", "tick", "(LQuakeServer;I[J)I"⟩
abbrev b_Q_tick : ByteArray := prog_1_method_11_code
abbrev y_Q_tick : MethodName := ⟨"QuakeServer", "tick", "(I)I"⟩
abbrev b_M_advanceTime : ByteArray := prog_4_method_2_code
abbrev y_M_advanceTime : MethodName := ⟨"QuakeServer$Machine", "advanceTime", "()V"⟩
abbrev b_V_takeTurn : ByteArray := prog_5_method_2_code
abbrev y_V_takeTurn : MethodName := ⟨"QuakeServer$Mover", "takeTurn", "(I)V"⟩
abbrev b_E_wholeField : ByteArray := prog_2_method_8_code
abbrev y_E_wholeField : MethodName := ⟨"QuakeServer$Entities", "wholeField", "(II)I"⟩
abbrev b_V_travel : ByteArray := prog_5_method_3_code
abbrev y_V_travel : MethodName := ⟨"QuakeServer$Mover", "travel", "(II)V"⟩
abbrev b_V_go : ByteArray := prog_5_method_4_code
abbrev y_V_go : MethodName := ⟨"QuakeServer$Mover", "go", "(II)I"⟩
abbrev b_J_floorDiv_III : ByteArray := prog_13_method_47_code
abbrev y_J_floorDiv_III : MethodName := ⟨"java/lang/Math", "floorDiv", "(II)I"⟩
abbrev b_J_abs_II : ByteArray := prog_13_method_59_code
abbrev y_J_abs_II : MethodName := ⟨"java/lang/Math", "abs", "(I)I"⟩
abbrev b_V_meetWalls : ByteArray := prog_5_method_5_code
abbrev y_V_meetWalls : MethodName := ⟨"QuakeServer$Mover", "meetWalls", "(IIZ)V"⟩
abbrev b_E_low : ByteArray := prog_2_method_10_code
abbrev y_E_low : MethodName := ⟨"QuakeServer$Entities", "low", "(II)I"⟩
abbrev b_E_sizeUsed : ByteArray := prog_2_method_12_code
abbrev y_E_sizeUsed : MethodName := ⟨"QuakeServer$Entities", "sizeUsed", "(I)I"⟩
abbrev b_J_min_III : ByteArray := prog_13_method_69_code
abbrev y_J_min_III : MethodName := ⟨"java/lang/Math", "min", "(II)I"⟩
abbrev b_J_max_III : ByteArray := prog_13_method_65_code
abbrev y_J_max_III : MethodName := ⟨"java/lang/Math", "max", "(II)I"⟩
abbrev b_E_high : ByteArray := prog_2_method_11_code
abbrev y_E_high : MethodName := ⟨"QuakeServer$Entities", "high", "(II)I"⟩
abbrev b_W_high : ByteArray := prog_7_method_4_code
abbrev y_W_high : MethodName := ⟨"QuakeServer$Walls", "high", "(II)I"⟩
abbrev b_W_low : ByteArray := prog_7_method_3_code
abbrev y_W_low : MethodName := ⟨"QuakeServer$Walls", "low", "(II)I"⟩
abbrev b_V_meet : ByteArray := prog_5_method_8_code
abbrev y_V_meet : MethodName := ⟨"QuakeServer$Mover", "meet", "(II)V"⟩
abbrev b_V_meetEntities : ByteArray := prog_5_method_6_code
abbrev y_V_meetEntities : MethodName := ⟨"QuakeServer$Mover", "meetEntities", "(IIZ)V"⟩
abbrev b_V_mayBlock : ByteArray := prog_5_method_7_code
abbrev y_V_mayBlock : MethodName := ⟨"QuakeServer$Mover", "mayBlock", "(II)Z"⟩
abbrev b_E_boxesOverlap : ByteArray := prog_2_method_13_code
abbrev y_E_boxesOverlap : MethodName := ⟨"QuakeServer$Entities", "boxesOverlap", "(III)Z"⟩
abbrev b_V_touchTriggers : ByteArray := prog_5_method_9_code
abbrev y_V_touchTriggers : MethodName := ⟨"QuakeServer$Mover", "touchTriggers", "(I)V"⟩
abbrev b_V_think : ByteArray := prog_5_method_10_code
abbrev y_V_think : MethodName := ⟨"QuakeServer$Mover", "think", "(I)V"⟩
abbrev b_E_number : ByteArray := prog_2_method_3_code
abbrev y_E_number : MethodName := ⟨"QuakeServer$Entities", "number", "()I"⟩
abbrev b_A_change : ByteArray := method_13_code
abbrev y_A_change : MethodName := ⟨"QuakeServerLaw", "change", "(LQuakeServer;I[J)I"⟩
abbrev b_Q_change : ByteArray := prog_1_method_13_code
abbrev y_Q_change : MethodName := ⟨"QuakeServer", "change", "(I)I"⟩
abbrev b_L_difference : ByteArray := prog_3_method_4_code
abbrev y_L_difference : MethodName := ⟨"QuakeServer$LastMessage", "difference", "(I)I"⟩
abbrev b_A_count : ByteArray := method_14_code
abbrev y_A_count : MethodName := ⟨"QuakeServerLaw", "count", "(LQuakeServer;I[J)I"⟩
abbrev b_Q_count : ByteArray := prog_1_method_15_code
abbrev y_Q_count : MethodName := ⟨"QuakeServer", "count", "(I)I"⟩
abbrev b_N_init : ByteArray := prog_9_method_1_code
abbrev y_N_init : MethodName := ⟨"QuakeServerModel", "<init>", "()V"⟩
abbrev b_N_thrown : ByteArray := prog_9_method_2_code
abbrev y_N_thrown : MethodName := ⟨"QuakeServerModel", "thrown", "()I"⟩
abbrev b_N_wall : ByteArray := prog_9_method_8_code
abbrev y_N_wall : MethodName := ⟨"QuakeServerModel", "wall", "(IIII)I"⟩
abbrev b_N_in : ByteArray := prog_9_method_4_code
abbrev y_N_in : MethodName := ⟨"QuakeServerModel", "in", "(III)Z"⟩
abbrev b_N_fail : ByteArray := prog_9_method_3_code
abbrev y_N_fail : MethodName := ⟨"QuakeServerModel", "fail", "(I)I"⟩
abbrev b_N_instr : ByteArray := prog_9_method_10_code
abbrev y_N_instr : MethodName := ⟨"QuakeServerModel", "instr", "(IIIII)I"⟩
abbrev b_N_fits : ByteArray := prog_9_method_9_code
abbrev y_N_fits : MethodName := ⟨"QuakeServerModel", "fits", "(IIII)Z"⟩
abbrev b_N_spawn : ByteArray := prog_9_method_14_code
abbrev y_N_spawn : MethodName := ⟨"QuakeServerModel", "spawn", "(DDD)I"⟩
abbrev b_N_number : ByteArray := prog_9_method_12_code
abbrev y_N_number : MethodName := ⟨"QuakeServerModel", "number", "(D)Z"⟩
abbrev b_N_create : ByteArray := prog_9_method_11_code
abbrev y_N_create : MethodName := ⟨"QuakeServerModel", "create", "()I"⟩
abbrev b_N_eighths : ByteArray := prog_9_method_13_code
abbrev y_N_eighths : MethodName := ⟨"QuakeServerModel", "eighths", "(D)J"⟩
abbrev b_N_remove : ByteArray := prog_9_method_16_code
abbrev y_N_remove : MethodName := ⟨"QuakeServerModel", "remove", "(I)I"⟩
abbrev b_N_gone : ByteArray := prog_9_method_15_code
abbrev y_N_gone : MethodName := ⟨"QuakeServerModel", "gone", "(I)Z"⟩
abbrev b_N_set : ByteArray := prog_9_method_17_code
abbrev y_N_set : MethodName := ⟨"QuakeServerModel", "set", "(IID)D"⟩
abbrev b_N_get : ByteArray := prog_9_method_18_code
abbrev y_N_get : MethodName := ⟨"QuakeServerModel", "get", "(II)D"⟩
abbrev b_N_setGlobal : ByteArray := prog_9_method_19_code
abbrev y_N_setGlobal : MethodName := ⟨"QuakeServerModel", "setGlobal", "(II)I"⟩
abbrev b_N_global : ByteArray := prog_9_method_20_code
abbrev y_N_global : MethodName := ⟨"QuakeServerModel", "global", "(I)I"⟩
abbrev b_N_run : ByteArray := prog_9_method_28_code
abbrev y_N_run : MethodName := ⟨"QuakeServerModel", "run", "(III)I"⟩
abbrev b_N_perform : ByteArray := prog_9_method_27_code
abbrev y_N_perform : MethodName := ⟨"QuakeServerModel", "perform", "(IJJZ)I"⟩
abbrev b_N_instructions : ByteArray := prog_9_method_26_code
abbrev y_N_instructions : MethodName := ⟨"QuakeServerModel", "instructions", "(I)I"⟩
abbrev b_N_unwound : ByteArray := prog_9_method_25_code
abbrev y_N_unwound : MethodName := ⟨"QuakeServerModel", "unwound", "(I)I"⟩
abbrev b_N_instruction : ByteArray := prog_9_method_24_code
abbrev y_N_instruction : MethodName := ⟨"QuakeServerModel", "instruction", "(I)V"⟩
abbrev b_N_whole : ByteArray := prog_9_method_7_code
abbrev y_N_whole : MethodName := ⟨"QuakeServerModel", "whole", "(J)I"⟩
abbrev b_N_down : ByteArray := prog_9_method_6_code
abbrev y_N_down : MethodName := ⟨"QuakeServerModel", "down", "(JJ)J"⟩
abbrev b_N_given : ByteArray := prog_9_method_23_code
abbrev y_N_given : MethodName := ⟨"QuakeServerModel", "given", "(IJI)J"⟩
abbrev b_N_clamp : ByteArray := prog_9_method_5_code
abbrev y_N_clamp : MethodName := ⟨"QuakeServerModel", "clamp", "(J)J"⟩
abbrev b_N_behind : ByteArray := prog_9_method_22_code
abbrev y_N_behind : MethodName := ⟨"QuakeServerModel", "behind", "(I)J"⟩
abbrev b_N_drawn : ByteArray := prog_9_method_21_code
abbrev y_N_drawn : MethodName := ⟨"QuakeServerModel", "drawn", "()J"⟩
abbrev b_N_tick : ByteArray := prog_9_method_39_code
abbrev y_N_tick : MethodName := ⟨"QuakeServerModel", "tick", "(I)I"⟩
abbrev b_N_turn : ByteArray := prog_9_method_37_code
abbrev y_N_turn : MethodName := ⟨"QuakeServerModel", "turn", "(I)V"⟩
abbrev b_N_go : ByteArray := prog_9_method_35_code
abbrev y_N_go : MethodName := ⟨"QuakeServerModel", "go", "(II)V"⟩
abbrev b_N_blockers : ByteArray := prog_9_method_33_code
abbrev y_N_blockers : MethodName := ⟨"QuakeServerModel", "blockers", "(IIZ)V"⟩
abbrev b_N_half : ByteArray := prog_9_method_29_code
abbrev y_N_half : MethodName := ⟨"QuakeServerModel", "half", "(I)J"⟩
abbrev b_N_overlap : ByteArray := prog_9_method_30_code
abbrev y_N_overlap : MethodName := ⟨"QuakeServerModel", "overlap", "(JJJJ)Z"⟩
abbrev b_N_consider : ByteArray := prog_9_method_32_code
abbrev y_N_consider : MethodName := ⟨"QuakeServerModel", "consider", "(IJZJJ)V"⟩
abbrev b_N_meets : ByteArray := prog_9_method_31_code
abbrev y_N_meets : MethodName := ⟨"QuakeServerModel", "meets", "(III)Z"⟩
abbrev b_N_touch : ByteArray := prog_9_method_34_code
abbrev y_N_touch : MethodName := ⟨"QuakeServerModel", "touch", "(II)V"⟩
abbrev b_N_triggers : ByteArray := prog_9_method_36_code
abbrev y_N_triggers : MethodName := ⟨"QuakeServerModel", "triggers", "(I)V"⟩
abbrev b_N_present : ByteArray := prog_9_method_38_code
abbrev y_N_present : MethodName := ⟨"QuakeServerModel", "present", "()I"⟩
abbrev b_N_changes : ByteArray := prog_9_method_41_code
abbrev y_N_changes : MethodName := ⟨"QuakeServerModel", "changes", "()I"⟩
abbrev b_N_changed : ByteArray := prog_9_method_40_code
abbrev y_N_changed : MethodName := ⟨"QuakeServerModel", "changed", "(II)Z"⟩
abbrev b_N_change : ByteArray := prog_9_method_42_code
abbrev y_N_change : MethodName := ⟨"QuakeServerModel", "change", "(I)I"⟩
abbrev b_N_message : ByteArray := prog_9_method_43_code
abbrev y_N_message : MethodName := ⟨"QuakeServerModel", "message", "()I"⟩
abbrev b_N_count : ByteArray := prog_9_method_44_code
abbrev y_N_count : MethodName := ⟨"QuakeServerModel", "count", "(I)I"⟩
def qs_gt : List Cond := lw_tbl.filter goodWord
abbrev qs_ws (y : MethodName) (b : ByteArray) (n : Nat) (r : Option FieldType) : List Cond := Cond.code y b n r :: qs_gt
theorem qs_gg {w : Cond} (h : w ∈ qs_gt) : goodWord w = true := (List.mem_filter.mp h).2
theorem qs_mem {w : Cond} (i : Nat) (h : tables_1[i]? = some w) (hg : goodWord w = true) : w ∈ qs_gt := List.mem_filter.mpr ⟨List.mem_append_right _ (List.mem_of_getElem? h), hg⟩
theorem qs_memp {w : Cond} (i : Nat) (h : (k2_sels lw_privs)[i]? = some w) (hg : goodWord w = true) : w ∈ qs_gt := List.mem_filter.mpr ⟨List.mem_append_left _ (List.mem_of_getElem? h), hg⟩
theorem qs_in1 {w : Cond} (h : w ∈ qs_gt) : w ∈ qs_gt ∧ ((w.onTables && w.keeps) = true ∨ ∃ ty, w = .arrayClass ty) := ⟨h, good_of_word (qs_gg h)⟩
theorem qs_gc {y : MethodName} {b : ByteArray} {n : Nat} {r : Option FieldType} (h : Cond.code y b n r ∈ qs_gt) : GoodIn qs_gt (qs_ws y b n r) := fun w hw => by
  rcases List.mem_cons.mp hw with rfl | hw
  · exact qs_in1 h
  · exact qs_in1 hw
theorem qs_gV {own C : String} {idx : Nat} {y : MethodName} {b : ByteArray} {n : Nat} {r : Option FieldType} (h1 : Cond.methodLink own idx y ∈ qs_gt) (h2 : Cond.instanceMethod y ∈ qs_gt) (h3 : Cond.selects C y y ∈ qs_gt) (h4 : Cond.initialized C ∈ qs_gt) (h : Cond.code y b n r ∈ qs_gt) : GoodIn qs_gt (wsV own idx C y (qs_ws y b n r)) := fun w hw => by
  rcases List.mem_append.mp hw with hw | hw
  · simp only [List.mem_cons, List.not_mem_nil, or_false] at hw
    rcases hw with rfl | rfl | rfl | rfl
    · exact qs_in1 h1
    · exact qs_in1 h2
    · exact qs_in1 h3
    · exact qs_in1 h4
  · exact qs_gc h w hw
theorem qs_gS {own : String} {idx : Nat} {y : MethodName} {b : ByteArray} {n : Nat} {r : Option FieldType} (h1 : Cond.methodLink own idx y ∈ qs_gt) (h2 : Cond.static y ∈ qs_gt) (h4 : Cond.initialized y.cls ∈ qs_gt) (h : Cond.code y b n r ∈ qs_gt) : GoodIn qs_gt (va_wsS own idx y (qs_ws y b n r)) := fun w hw => by
  rcases List.mem_append.mp hw with hw | hw
  · simp only [List.mem_cons, List.not_mem_nil, or_false] at hw
    rcases hw with rfl | rfl | rfl
    · exact qs_in1 h1
    · exact qs_in1 h2
    · exact qs_in1 h4
  · exact qs_gc h w hw
def qn_F : List (String × Nat × String × String × String × String) := [("QuakeServer", 70, "QuakeServer$Walls", "number", "I", "QuakeServer"), ("QuakeServer$Mover", 96, "QuakeServer$Walls", "number", "I", "QuakeServer"), ("QuakeServer$Machine", 76, "QuakeServer$Program", "parts", "[I", "QuakeServer"), ("QuakeServer", 150, "QuakeServer$Machine", "globals", "[I", "QuakeServer"), ("QuakeServer$Mover", 114, "QuakeServer$Machine", "time", "I", "QuakeServer"), ("QuakeServer", 186, "QuakeServer$Machine", "time", "I", "QuakeServer"), ("QuakeServer", 192, "QuakeServer$Machine", "drawState", "I", "QuakeServer"), ("QuakeServer", 189, "QuakeServer$Machine", "runaways", "I", "QuakeServer"), ("QuakeServer", 195, "QuakeServer$Machine", "workingRuns", "I", "QuakeServer"), ("QuakeServer", 198, "QuakeServer$Mover", "hits", "I", "QuakeServer")]
def qn_M : List (String × Nat × MethodName × String) := [("QuakeServer", 11, ⟨"QuakeServer$Entities", "<init>", "()V"⟩, "QuakeServer"), ("QuakeServer", 18, ⟨"QuakeServer$Walls", "<init>", "()V"⟩, "QuakeServer"), ("QuakeServer", 25, ⟨"QuakeServer$Program", "<init>", "()V"⟩, "QuakeServer"), ("QuakeServer$Program", 18, ⟨"QuakeServer", "isBelow", "(II)Z"⟩, "QuakeServer"), ("QuakeServer$Machine", 40, ⟨"QuakeServer", "isBelow", "(II)Z"⟩, "QuakeServer"), ("QuakeServer$Machine", 79, ⟨"QuakeServer", "wholeOf", "(I)I"⟩, "QuakeServer"), ("QuakeServer$Machine", 36, ⟨"QuakeServer", "inRange", "(J)I"⟩, "QuakeServer"), ("QuakeServer$Entities", 27, ⟨"QuakeServer", "wholeOf", "(I)I"⟩, "QuakeServer"), ("QuakeServer$Mover", 32, ⟨"QuakeServer", "inRange", "(J)I"⟩, "QuakeServer")]
def qs_N (U : State) : Prop := (∀ q ∈ qn_F, va_Nw (.fieldLinkNest q.1 q.2.1 q.2.2.1 q.2.2.2.1 q.2.2.2.2.1 q.2.2.2.2.2) U) ∧ ∀ q ∈ qn_M, va_Nw (.methodLinkNest q.1 q.2.1 q.2.2.1 q.2.2.2) U
theorem qs_N.warm {s U : State} (hW : s.WarmedH U.vm) (h : qs_N s) : qs_N U := ⟨fun q hq => va_Nw.warmF hW (h.1 q hq), fun q hq => va_Nw.warmM hW (h.2 q hq)⟩
theorem qs_N.same {s U : State} (hv : s.vm = U.vm) (h : qs_N s) : qs_N U := ⟨fun q hq => va_Nw.same rfl hv (h.1 q hq), fun q hq => va_Nw.same rfl hv (h.2 q hq)⟩
end
section
/-! The state of a system as numbers: component k, place i. A field of a number is place 0 of its component. -/
abbrev Sg : Type := Nat → Nat → Int32
def qs_i (g : Sg) (k : Nat) (v : Int32) : Sg := fun j => cond (Nat.beq j k) (fun _ => v) (g j)
def qs_a (g : Sg) (k i : Nat) (v : Int32) : Sg := fun j => cond (Nat.beq j k) (upd (g j) i v) (g j)
/-- guards: what the machine would throw by itself is 'none' -/
def qs_in {α : Type} (i : Int32) (n : Nat) (x : Option α) : Option α := if i < 0 ∨ n ≤ i.toNatClampNeg then none else x
theorem qs_in_some {α : Type} {i : Int32} {n : Nat} {x : Option α} {v : α} (h : qs_in i n x = some v) : vp_in i n ∧ x = some v := by
  unfold qs_in at h
  by_cases q : i < 0 ∨ n ≤ i.toNatClampNeg
  · rw [if_pos q] at h; cases h
  · rw [if_neg q] at h; exact ⟨q, h⟩
def qs_nzi {α : Type} (y : Int32) (x : Option α) : Option α := if y = 0 then none else x
theorem qs_nzi_some {α : Type} {y : Int32} {x : Option α} {v : α} (h : qs_nzi y x = some v) : ¬ y = 0 ∧ x = some v := by
  unfold qs_nzi at h
  by_cases q : y = 0
  · rw [if_pos q] at h; cases h
  · rw [if_neg q] at h; exact ⟨q, h⟩
def qs_nzl {α : Type} (y : Int64) (x : Option α) : Option α := if y = 0 then none else x
theorem qs_nzl_some {α : Type} {y : Int64} {x : Option α} {v : α} (h : qs_nzl y x = some v) : ¬ y = 0 ∧ x = some v := by
  unfold qs_nzl at h
  by_cases q : y = 0
  · rw [if_pos q] at h; cases h
  · rw [if_neg q] at h; exact ⟨q, h⟩
def qs_nan {α : Type} (r : UInt64) (x : Option α) : Option α := if r &&& 0x7fffffffffffffff ≤ 0x7ff0000000000000 then x else none
theorem qs_nan_some {α : Type} {r : UInt64} {x : Option α} {v : α} (h : qs_nan r x = some v) : vf_n64 r ∧ x = some v := by
  unfold qs_nan at h
  by_cases q : r &&& 0x7fffffffffffffff ≤ 0x7ff0000000000000
  · rw [if_pos q] at h; exact ⟨q, h⟩
  · rw [if_neg q] at h; cases h
def qs_bn {α β γ : Type} (x : Option (α × β)) (f : α → β → Option γ) : Option γ := x.bind fun q => f q.1 q.2
theorem qs_bn_some {α β γ : Type} {x : Option (α × β)} {f : α → β → Option γ} {v : γ} (h : qs_bn x f = some v) : ∃ r u, x = some (r, u) ∧ f r u = some v := by
  unfold qs_bn at h
  cases x with
  | none => cases h
  | some q => exact ⟨q.1, q.2, rfl, h⟩
def qs_pb {α γ : Type} (x : Option α) (f : α → Option γ) : Option γ := x.bind f
theorem qs_pb_some {α γ : Type} {x : Option α} {f : α → Option γ} {v : γ} (h : qs_pb x f = some v) : ∃ r, x = some r ∧ f r = some v := by
  unfold qs_pb at h
  cases x with
  | none => cases h
  | some q => exact ⟨q, rfl, h⟩
theorem qs_pos {c : Prop} [Decidable c] {α : Type} {x y v : α} (h : c) (hF : (if c then x else y) = v) : x = v := by rw [if_pos h] at hF; exact hF
theorem qs_neg {c : Prop} [Decidable c] {α : Type} {x y v : α} (h : ¬ c) (hF : (if c then x else y) = v) : y = v := by rw [if_neg h] at hF; exact hF
theorem qs_ret {α β : Type} {a c : α} {b d : β} (h : some (a, b) = some (c, d)) : a = c ∧ b = d := by cases h; exact ⟨rfl, rfl⟩
def qs_G0 : va_G := (fun _ => 0, fun _ _ => 0)
theorem qs_P0 {D : va_G} {cl : List vw_C} {H : Heap} : va_P D cl [] H := fun k q h => by simp at h
theorem qs_D0 {A : Nat → Prop} : va_D A [] := ⟨fun i j p q h => by simp at h, fun k q h => by simp at h⟩
theorem qs_blind {av : List Value} {D : va_G} {cl : List vw_C} {tys : List (ClassId × FieldType)} {ws : va_W} {sz : Nat} {B : Nat → Prop} : FrameBlind (va_Pc av (fun U => U.heap.size = sz ∧ va_P D cl ws U.heap ∧ va_K D cl tys U ∧ va_D B ws ∧ qs_N U)) :=
  fun a U g mk q => by
    obtain ⟨q0, q1, qP, qK, qD, qN⟩ := q
    exact ⟨q0, q1, qP, va_K.moved (u := U) (U := U.calling g mk a) (Vm.Alike.refl U.vm) qK, qD, qs_N.same (s := U) (U := U.calling g mk a) rfl qN⟩
theorem qs_blind0 {av : List Value} {sz : Nat} : FrameBlind (va_Pc av (fun U => U.heap.size = sz ∧ qs_N U)) :=
  fun a U g mk q => ⟨q.1, q.2.1, qs_N.same (s := U) (U := U.calling g mk a) rfl q.2.2⟩
section QSC
variable {p : Program} {l : Launch} {e : Env} {R : Room} {s : State} {m : MethodId} {args : Array Value} {below : List Frame} {meth : Method} {cd : Code} {H : Heap} {locs : List Loc} {cells slots : Nat} {Q : State → Prop}
variable {pc : Nat} {ls : Array Slot} {rest st0 : List Value} {a : Array Value} {D : va_G} {cl : List vw_C} {ws : va_W} {A : Nat → Prop} {H0 : Heap}
theorem qs_free0 (hS : va_S A H0 H locs) (hA : ∀ q : Nat, H0.size ≤ q → A q) : ∀ q : Nat, va_A [] H.size q → A q := fun q h => by
  rcases h with ⟨k, e, h⟩ | h
  · simp at h
  · exact hA q (Nat.le_trans hS.1 h)
theorem qs_kept0 {H1 : Heap} (hP : va_P D cl ws H) (hk : ∀ q : Nat, q < H.size → ¬ va_A [] H.size q → H1[q]? = H[q]?) : va_P D cl ws H1 := hP.kept (fun k q hq => hk q.1 (hP k q hq).lt (fun h => by
  rcases h with ⟨k2, e, h2⟩ | h2
  · simp at h2
  · exact absurd (hP k q hq).lt (Nat.not_lt.mpr h2)))
/-- a call of a static method that needs no cells -/
theorem qs_psi {r0 : Int32} (hr : va_Run p l e R s m args below meth cd H locs cells slots 0 0 (F0 m pc ls st0) rest (va_Qi (fun (r : Int32) (_ : Unit) => r = r0) (fun _ _ => True) (va_A [] H.size) a) (va_A [] H.size))
    (hP : va_P D cl ws H) (_ : va_D A ws) (hS : va_S A H0 H locs) (hA : ∀ q : Nat, H0.size ≤ q → A q)
    (kk : ∀ (H1 : Heap) (locs1 : List Loc), va_P D cl ws H1 → va_S A H0 H1 locs1 → W p l e R s m args below meth cd H1 locs1 cells slots Q (F0 m (pc + 3) ls (.int r0 :: rest))) : W p l e R s m args below meth cd H locs cells slots Q (F0 m pc ls st0) := by
  have hFc := qs_free0 hS hA
  refine va_calli hr hS (fun q _ h => hFc q h) hFc (fun r u t H1 locs1 ht hvm hw hB hz hk hS1 => ?_)
  subst hw
  exact kk H1 locs1 (qs_kept0 hP hk) hS1
theorem qs_psl {r0 : Int64} (hr : va_Run p l e R s m args below meth cd H locs cells slots 0 0 (F0 m pc ls st0) rest (va_Ql (fun (r : Int64) (_ : Unit) => r = r0) (fun _ _ => True) (va_A [] H.size) a) (va_A [] H.size))
    (hP : va_P D cl ws H) (_ : va_D A ws) (hS : va_S A H0 H locs) (hA : ∀ q : Nat, H0.size ≤ q → A q)
    (kk : ∀ (H1 : Heap) (locs1 : List Loc), va_P D cl ws H1 → va_S A H0 H1 locs1 → W p l e R s m args below meth cd H1 locs1 cells slots Q (F0 m (pc + 3) ls (.long r0 :: rest))) : W p l e R s m args below meth cd H locs cells slots Q (F0 m pc ls st0) := by
  have hFc := qs_free0 hS hA
  refine va_calll hr hS (fun q _ h => hFc q h) hFc (fun r u t H1 locs1 ht hvm hw hB hz hk hS1 => ?_)
  subst hw
  exact kk H1 locs1 (qs_kept0 hP hk) hS1
theorem qs_psd {r0 : UInt64} (hr : va_Run p l e R s m args below meth cd H locs cells slots 0 0 (F0 m pc ls st0) rest (va_Qd (fun (r : UInt64) (_ : Unit) => r = r0) (fun _ _ => True) (va_A [] H.size) a) (va_A [] H.size))
    (hP : va_P D cl ws H) (_ : va_D A ws) (hS : va_S A H0 H locs) (hA : ∀ q : Nat, H0.size ≤ q → A q)
    (kk : ∀ (H1 : Heap) (locs1 : List Loc), va_P D cl ws H1 → va_S A H0 H1 locs1 → W p l e R s m args below meth cd H1 locs1 cells slots Q (F0 m (pc + 3) ls (.double r0 :: rest))) : W p l e R s m args below meth cd H locs cells slots Q (F0 m pc ls st0) := by
  have hFc := qs_free0 hS hA
  refine va_calld hr hS (fun q _ h => hFc q h) hFc (fun r u t H1 locs1 ht hvm hw hB hz hk hS1 => ?_)
  subst hw
  exact kk H1 locs1 (qs_kept0 hP hk) hS1
variable {Wd : Sg → va_W} {tys : List (ClassId × FieldType)} {g u0 : Sg} {isC : List Nat}
theorem qs_joined {H1 : Heap} (hC : isC.map (fun i => (Wd g)[i]?) = (Wd g).map some) (hP : va_P D cl (Wd g) H) (hD : va_D A (Wd g)) (hk : ∀ q : Nat, q < H.size → ¬ va_A (Wd g) H.size q → H1[q]? = H[q]?) (hF : ∀ q, va_A (Wd g) H.size q → A q) (hP1 : va_P D cl (Wd u0) H1) (hD1 : va_D (va_A (Wd g) H.size) (Wd u0)) : va_P D cl (Wd u0) H1 ∧ va_D A (Wd u0) :=
  va_join (wr := []) (w1 := Wd u0) hP hD isC [] hC rfl rfl (fun i h => by simp at h) hk hF hP1 hD1
/-- a call of a method of the system: the whole world goes in and comes back -/
theorem qs_ci {r0 : Int32} (hr : va_Run p l e R s m args below meth cd H locs cells slots 0 0 (F0 m pc ls st0) rest (va_Qi (fun (r : Int32) (u : Sg) => r = r0 ∧ u = u0) (fun u t => va_P D cl (Wd u) t.heap ∧ va_K D cl tys t ∧ va_D (va_A (Wd g) H.size) (Wd u)) (va_A (Wd g) H.size) a) (va_A (Wd g) H.size))
    (hC : isC.map (fun i => (Wd g)[i]?) = (Wd g).map some) (hP : va_P D cl (Wd g) H) (hD : va_D A (Wd g)) (hS : va_S A H0 H locs) (hA : ∀ q : Nat, H0.size ≤ q → A q)
    (kk : ∀ (H1 : Heap) (locs1 : List Loc), va_P D cl (Wd u0) H1 → va_D A (Wd u0) → va_S A H0 H1 locs1 → W p l e R s m args below meth cd H1 locs1 cells slots Q (F0 m (pc + 3) ls (.int r0 :: rest))) : W p l e R s m args below meth cd H locs cells slots Q (F0 m pc ls st0) := by
  have hFc := va_free (wc := Wd g) hD hS hA isC hC
  refine va_calli hr hS (fun q _ h => hFc q h) hFc (fun r u t H1 locs1 ht hvm hw hB hz hk hS1 => ?_)
  obtain ⟨rfl, rfl⟩ := hw
  obtain ⟨hP1, hK1, hD1⟩ := hB
  rw [ht] at hP1
  obtain ⟨hP2, hD2⟩ := qs_joined hC hP hD hk hFc hP1 hD1
  exact kk H1 locs1 hP2 hD2 hS1
theorem qs_cd {r0 : UInt64} (hr : va_Run p l e R s m args below meth cd H locs cells slots 0 0 (F0 m pc ls st0) rest (va_Qd (fun (r : UInt64) (u : Sg) => r = r0 ∧ u = u0) (fun u t => va_P D cl (Wd u) t.heap ∧ va_K D cl tys t ∧ va_D (va_A (Wd g) H.size) (Wd u)) (va_A (Wd g) H.size) a) (va_A (Wd g) H.size))
    (hC : isC.map (fun i => (Wd g)[i]?) = (Wd g).map some) (hP : va_P D cl (Wd g) H) (hD : va_D A (Wd g)) (hS : va_S A H0 H locs) (hA : ∀ q : Nat, H0.size ≤ q → A q)
    (kk : ∀ (H1 : Heap) (locs1 : List Loc), va_P D cl (Wd u0) H1 → va_D A (Wd u0) → va_S A H0 H1 locs1 → W p l e R s m args below meth cd H1 locs1 cells slots Q (F0 m (pc + 3) ls (.double r0 :: rest))) : W p l e R s m args below meth cd H locs cells slots Q (F0 m pc ls st0) := by
  have hFc := va_free (wc := Wd g) hD hS hA isC hC
  refine va_calld hr hS (fun q _ h => hFc q h) hFc (fun r u t H1 locs1 ht hvm hw hB hz hk hS1 => ?_)
  obtain ⟨rfl, rfl⟩ := hw
  obtain ⟨hP1, hK1, hD1⟩ := hB
  rw [ht] at hP1
  obtain ⟨hP2, hD2⟩ := qs_joined hC hP hD hk hFc hP1 hD1
  exact kk H1 locs1 hP2 hD2 hS1
theorem qs_cv (hr : va_Run p l e R s m args below meth cd H locs cells slots 0 0 (F0 m pc ls st0) rest (va_Qv (fun (u : Sg) => u = u0) (fun u t => va_P D cl (Wd u) t.heap ∧ va_K D cl tys t ∧ va_D (va_A (Wd g) H.size) (Wd u)) (va_A (Wd g) H.size) a) (va_A (Wd g) H.size))
    (hC : isC.map (fun i => (Wd g)[i]?) = (Wd g).map some) (hP : va_P D cl (Wd g) H) (hD : va_D A (Wd g)) (hS : va_S A H0 H locs) (hA : ∀ q : Nat, H0.size ≤ q → A q)
    (kk : ∀ (H1 : Heap) (locs1 : List Loc), va_P D cl (Wd u0) H1 → va_D A (Wd u0) → va_S A H0 H1 locs1 → W p l e R s m args below meth cd H1 locs1 cells slots Q (F0 m (pc + 3) ls rest)) : W p l e R s m args below meth cd H locs cells slots Q (F0 m pc ls st0) := by
  have hFc := va_free (wc := Wd g) hD hS hA isC hC
  refine va_callv hr hS (fun q _ h => hFc q h) hFc (fun u t H1 locs1 ht hvm hw hB hz hk hS1 => ?_)
  obtain rfl := hw
  obtain ⟨hP1, hK1, hD1⟩ := hB
  rw [ht] at hP1
  obtain ⟨hP2, hD2⟩ := qs_joined hC hP hD hk hFc hP1 hD1
  exact kk H1 locs1 hP2 hD2 hS1
end QSC
theorem qs_F {A : Nat → Prop} {s t : State} {H : Heap} {locs : List Loc} (hS : va_S A s.heap H locs) (hz : H.size ≤ t.heap.size) (hk : ∀ q : Nat, q < H.size → t.heap[q]? = H[q]?) : va_F A s t := ⟨Nat.le_trans hS.1 hz, fun q h1 h2 => (hk q (Nat.lt_of_lt_of_le h1 hS.1)).trans (hS.2.1 q h1 h2)⟩
end
section
abbrev qs_W (h : Nat → Nat) (c : Nat → ClassId) (g : Sg) : va_W := [(h 0, .inr (6, [.ref (h 1), .ref (h 2), .ref (h 3), .ref (h 4), .ref (h 5), .ref (h 6)])), (h 1, .inr (0, [.ref (h 7), .ref (h 8)])), (h 2, .inr (1, [.ref (h 9), .ref (h 10), .int (g 20 0)])), (h 3, .inr (2, [.ref (h 11), .ref (h 12)])), (h 4, .inr (3, [.ref (h 1), .ref (h 3), .ref (h 13), .ref (h 14), .ref (h 15), .int (g 21 0), .int (g 22 0), .int (g 23 0), .int (g 24 0), .int (g 25 0), .int (g 26 0)])), (h 5, .inr (4, [.ref (h 1), .ref (h 2), .ref (h 4), .int (g 27 0), .int (g 28 0), .int (g 29 0)])), (h 6, .inr (5, [.ref (h 1), .ref (h 16)])), (h 7, .inl (c 7, 12, .inl (g 7))), (h 8, .inl (c 8, 192, .inl (g 8))), (h 9, .inl (c 9, 12, .inl (g 9))), (h 10, .inl (c 10, 12, .inl (g 10))), (h 11, .inl (c 11, 336, .inl (g 11))), (h 12, .inl (c 12, 6, .inl (g 12))), (h 13, .inl (c 13, 24, .inl (g 13))), (h 14, .inl (c 14, 6, .inl (g 14))), (h 15, .inl (c 15, 6, .inl (g 15))), (h 16, .inl (c 16, 192, .inl (g 16)))]
abbrev qs_T (c : Nat → ClassId) : List (ClassId × FieldType) := [(c 7, .boolean), (c 8, .int), (c 9, .int), (c 10, .int), (c 11, .int), (c 12, .int), (c 13, .int), (c 14, .int), (c 15, .int), (c 16, .int)]
abbrev qs_at (dC : Nat → ClassId) (dI : Nat → Nat → Nat) (h : Nat → Nat) (c : Nat → ClassId) (A : Nat → Prop) (u : Sg) (t : State) : Prop := va_P (dC, dI) vwCl (qs_W h c u) t.heap ∧ va_K (dC, dI) vwCl (qs_T c) t ∧ va_D A (qs_W h c u)
end
section
theorem t_1 : Jvm.Cond.initialized "QuakeServer" ∈ qs_gt := qs_mem 1 (by decide +kernel) (by decide +kernel)
theorem t_2 : Jvm.Cond.initialized "QuakeServer$Entities" ∈ qs_gt := qs_mem 2 (by decide +kernel) (by decide +kernel)
theorem t_3 : Jvm.Cond.initialized "QuakeServer$Walls" ∈ qs_gt := qs_mem 3 (by decide +kernel) (by decide +kernel)
theorem t_4 : Jvm.Cond.initialized "QuakeServer$Program" ∈ qs_gt := qs_mem 4 (by decide +kernel) (by decide +kernel)
theorem t_5 : Jvm.Cond.initialized "QuakeServer$Machine" ∈ qs_gt := qs_mem 5 (by decide +kernel) (by decide +kernel)
theorem t_6 : Jvm.Cond.initialized "QuakeServer$Mover" ∈ qs_gt := qs_mem 6 (by decide +kernel) (by decide +kernel)
theorem t_7 : Jvm.Cond.initialized "QuakeServer$LastMessage" ∈ qs_gt := qs_mem 7 (by decide +kernel) (by decide +kernel)
theorem t_15 : Jvm.Cond.initialized "java/lang/Math" ∈ qs_gt := qs_mem 15 (by decide +kernel) (by decide +kernel)
theorem t_30 : Jvm.Cond.fieldLink "QuakeServer$Entities" (9 : Nat) "QuakeServer$Entities" "there" "[Z" ∈ qs_gt := qs_mem 30 (by decide +kernel) (by decide +kernel)
theorem t_31 : Jvm.Cond.fieldLink "QuakeServer$Entities" (15 : Nat) "QuakeServer$Entities" "fields" "[I" ∈ qs_gt := qs_mem 31 (by decide +kernel) (by decide +kernel)
theorem t_32 : Jvm.Cond.laysFinal "QuakeServer$Entities" "QuakeServer$Entities" "there" "[Z" ∈ qs_gt := qs_mem 32 (by decide +kernel) (by decide +kernel)
theorem t_34 : Jvm.Cond.laysFinal "QuakeServer$Entities" "QuakeServer$Entities" "fields" "[I" ∈ qs_gt := qs_mem 34 (by decide +kernel) (by decide +kernel)
theorem t_45 : Jvm.Cond.fieldLink "QuakeServer$Walls" (9 : Nat) "QuakeServer$Walls" "lows" "[I" ∈ qs_gt := qs_mem 45 (by decide +kernel) (by decide +kernel)
theorem t_46 : Jvm.Cond.fieldLink "QuakeServer$Walls" (15 : Nat) "QuakeServer$Walls" "highs" "[I" ∈ qs_gt := qs_mem 46 (by decide +kernel) (by decide +kernel)
theorem t_47 : Jvm.Cond.fieldLink "QuakeServer$Walls" (18 : Nat) "QuakeServer$Walls" "number" "I" ∈ qs_gt := qs_mem 47 (by decide +kernel) (by decide +kernel)
theorem t_50 : Jvm.Cond.laysFinal "QuakeServer$Walls" "QuakeServer$Walls" "lows" "[I" ∈ qs_gt := qs_mem 50 (by decide +kernel) (by decide +kernel)
theorem t_52 : Jvm.Cond.laysFinal "QuakeServer$Walls" "QuakeServer$Walls" "highs" "[I" ∈ qs_gt := qs_mem 52 (by decide +kernel) (by decide +kernel)
theorem t_54 : Jvm.Cond.lays "QuakeServer$Walls" "QuakeServer$Walls" "number" "I" ∈ qs_gt := qs_mem 54 (by decide +kernel) (by decide +kernel)
theorem t_63 : Jvm.Cond.fieldLink "QuakeServer$Program" (11 : Nat) "QuakeServer$Program" "parts" "[I" ∈ qs_gt := qs_mem 63 (by decide +kernel) (by decide +kernel)
theorem t_65 : Jvm.Cond.fieldLink "QuakeServer$Program" (15 : Nat) "QuakeServer$Program" "lengths" "[I" ∈ qs_gt := qs_mem 65 (by decide +kernel) (by decide +kernel)
theorem t_66 : Jvm.Cond.laysFinal "QuakeServer$Program" "QuakeServer$Program" "parts" "[I" ∈ qs_gt := qs_mem 66 (by decide +kernel) (by decide +kernel)
theorem t_68 : Jvm.Cond.laysFinal "QuakeServer$Program" "QuakeServer$Program" "lengths" "[I" ∈ qs_gt := qs_mem 68 (by decide +kernel) (by decide +kernel)
theorem t_77 : Jvm.Cond.fieldLink "QuakeServer$Machine" (25 : Nat) "QuakeServer$Machine" "entities" "LQuakeServer$Entities;" ∈ qs_gt := qs_mem 77 (by decide +kernel) (by decide +kernel)
theorem t_78 : Jvm.Cond.fieldLink "QuakeServer$Machine" (29 : Nat) "QuakeServer$Machine" "program" "LQuakeServer$Program;" ∈ qs_gt := qs_mem 78 (by decide +kernel) (by decide +kernel)
theorem t_79 : Jvm.Cond.fieldLink "QuakeServer$Machine" (9 : Nat) "QuakeServer$Machine" "globals" "[I" ∈ qs_gt := qs_mem 79 (by decide +kernel) (by decide +kernel)
theorem t_81 : Jvm.Cond.fieldLink "QuakeServer$Machine" (15 : Nat) "QuakeServer$Machine" "openFunctions" "[I" ∈ qs_gt := qs_mem 81 (by decide +kernel) (by decide +kernel)
theorem t_82 : Jvm.Cond.fieldLink "QuakeServer$Machine" (18 : Nat) "QuakeServer$Machine" "openPlaces" "[I" ∈ qs_gt := qs_mem 82 (by decide +kernel) (by decide +kernel)
theorem t_83 : Jvm.Cond.fieldLink "QuakeServer$Machine" (51 : Nat) "QuakeServer$Machine" "depth" "I" ∈ qs_gt := qs_mem 83 (by decide +kernel) (by decide +kernel)
theorem t_84 : Jvm.Cond.fieldLink "QuakeServer$Machine" (54 : Nat) "QuakeServer$Machine" "tooDeep" "Z" ∈ qs_gt := qs_mem 84 (by decide +kernel) (by decide +kernel)
theorem t_85 : Jvm.Cond.fieldLink "QuakeServer$Machine" (33 : Nat) "QuakeServer$Machine" "time" "I" ∈ qs_gt := qs_mem 85 (by decide +kernel) (by decide +kernel)
theorem t_88 : Jvm.Cond.fieldLink "QuakeServer$Machine" (21 : Nat) "QuakeServer$Machine" "drawState" "I" ∈ qs_gt := qs_mem 88 (by decide +kernel) (by decide +kernel)
theorem t_90 : Jvm.Cond.fieldLink "QuakeServer$Machine" (64 : Nat) "QuakeServer$Machine" "runaways" "I" ∈ qs_gt := qs_mem 90 (by decide +kernel) (by decide +kernel)
theorem t_92 : Jvm.Cond.fieldLink "QuakeServer$Machine" (48 : Nat) "QuakeServer$Machine" "workingRuns" "I" ∈ qs_gt := qs_mem 92 (by decide +kernel) (by decide +kernel)
theorem t_94 : Jvm.Cond.laysFinal "QuakeServer$Machine" "QuakeServer$Machine" "entities" "LQuakeServer$Entities;" ∈ qs_gt := qs_mem 94 (by decide +kernel) (by decide +kernel)
theorem t_96 : Jvm.Cond.laysFinal "QuakeServer$Machine" "QuakeServer$Machine" "program" "LQuakeServer$Program;" ∈ qs_gt := qs_mem 96 (by decide +kernel) (by decide +kernel)
theorem t_98 : Jvm.Cond.laysFinal "QuakeServer$Machine" "QuakeServer$Machine" "globals" "[I" ∈ qs_gt := qs_mem 98 (by decide +kernel) (by decide +kernel)
theorem t_100 : Jvm.Cond.laysFinal "QuakeServer$Machine" "QuakeServer$Machine" "openFunctions" "[I" ∈ qs_gt := qs_mem 100 (by decide +kernel) (by decide +kernel)
theorem t_102 : Jvm.Cond.laysFinal "QuakeServer$Machine" "QuakeServer$Machine" "openPlaces" "[I" ∈ qs_gt := qs_mem 102 (by decide +kernel) (by decide +kernel)
theorem t_104 : Jvm.Cond.lays "QuakeServer$Machine" "QuakeServer$Machine" "depth" "I" ∈ qs_gt := qs_mem 104 (by decide +kernel) (by decide +kernel)
theorem t_106 : Jvm.Cond.lays "QuakeServer$Machine" "QuakeServer$Machine" "tooDeep" "Z" ∈ qs_gt := qs_mem 106 (by decide +kernel) (by decide +kernel)
theorem t_108 : Jvm.Cond.lays "QuakeServer$Machine" "QuakeServer$Machine" "time" "I" ∈ qs_gt := qs_mem 108 (by decide +kernel) (by decide +kernel)
theorem t_110 : Jvm.Cond.lays "QuakeServer$Machine" "QuakeServer$Machine" "drawState" "I" ∈ qs_gt := qs_mem 110 (by decide +kernel) (by decide +kernel)
theorem t_112 : Jvm.Cond.lays "QuakeServer$Machine" "QuakeServer$Machine" "runaways" "I" ∈ qs_gt := qs_mem 112 (by decide +kernel) (by decide +kernel)
theorem t_114 : Jvm.Cond.lays "QuakeServer$Machine" "QuakeServer$Machine" "workingRuns" "I" ∈ qs_gt := qs_mem 114 (by decide +kernel) (by decide +kernel)
theorem t_123 : Jvm.Cond.fieldLink "QuakeServer$Mover" (9 : Nat) "QuakeServer$Mover" "entities" "LQuakeServer$Entities;" ∈ qs_gt := qs_mem 123 (by decide +kernel) (by decide +kernel)
theorem t_124 : Jvm.Cond.fieldLink "QuakeServer$Mover" (15 : Nat) "QuakeServer$Mover" "walls" "LQuakeServer$Walls;" ∈ qs_gt := qs_mem 124 (by decide +kernel) (by decide +kernel)
theorem t_125 : Jvm.Cond.fieldLink "QuakeServer$Mover" (19 : Nat) "QuakeServer$Mover" "machine" "LQuakeServer$Machine;" ∈ qs_gt := qs_mem 125 (by decide +kernel) (by decide +kernel)
theorem t_126 : Jvm.Cond.fieldLink "QuakeServer$Mover" (54 : Nat) "QuakeServer$Mover" "hits" "I" ∈ qs_gt := qs_mem 126 (by decide +kernel) (by decide +kernel)
theorem t_128 : Jvm.Cond.fieldLink "QuakeServer$Mover" (77 : Nat) "QuakeServer$Mover" "reach" "I" ∈ qs_gt := qs_mem 128 (by decide +kernel) (by decide +kernel)
theorem t_129 : Jvm.Cond.fieldLink "QuakeServer$Mover" (80 : Nat) "QuakeServer$Mover" "met" "I" ∈ qs_gt := qs_mem 129 (by decide +kernel) (by decide +kernel)
theorem t_130 : Jvm.Cond.laysFinal "QuakeServer$Mover" "QuakeServer$Mover" "entities" "LQuakeServer$Entities;" ∈ qs_gt := qs_mem 130 (by decide +kernel) (by decide +kernel)
theorem t_132 : Jvm.Cond.laysFinal "QuakeServer$Mover" "QuakeServer$Mover" "walls" "LQuakeServer$Walls;" ∈ qs_gt := qs_mem 132 (by decide +kernel) (by decide +kernel)
theorem t_134 : Jvm.Cond.laysFinal "QuakeServer$Mover" "QuakeServer$Mover" "machine" "LQuakeServer$Machine;" ∈ qs_gt := qs_mem 134 (by decide +kernel) (by decide +kernel)
theorem t_136 : Jvm.Cond.lays "QuakeServer$Mover" "QuakeServer$Mover" "hits" "I" ∈ qs_gt := qs_mem 136 (by decide +kernel) (by decide +kernel)
theorem t_138 : Jvm.Cond.lays "QuakeServer$Mover" "QuakeServer$Mover" "reach" "I" ∈ qs_gt := qs_mem 138 (by decide +kernel) (by decide +kernel)
theorem t_140 : Jvm.Cond.lays "QuakeServer$Mover" "QuakeServer$Mover" "met" "I" ∈ qs_gt := qs_mem 140 (by decide +kernel) (by decide +kernel)
theorem t_149 : Jvm.Cond.fieldLink "QuakeServer$LastMessage" (15 : Nat) "QuakeServer$LastMessage" "entities" "LQuakeServer$Entities;" ∈ qs_gt := qs_mem 149 (by decide +kernel) (by decide +kernel)
theorem t_150 : Jvm.Cond.fieldLink "QuakeServer$LastMessage" (9 : Nat) "QuakeServer$LastMessage" "told" "[I" ∈ qs_gt := qs_mem 150 (by decide +kernel) (by decide +kernel)
theorem t_151 : Jvm.Cond.laysFinal "QuakeServer$LastMessage" "QuakeServer$LastMessage" "entities" "LQuakeServer$Entities;" ∈ qs_gt := qs_mem 151 (by decide +kernel) (by decide +kernel)
theorem t_153 : Jvm.Cond.laysFinal "QuakeServer$LastMessage" "QuakeServer$LastMessage" "told" "[I" ∈ qs_gt := qs_mem 153 (by decide +kernel) (by decide +kernel)
theorem t_161 : Jvm.Cond.fieldLink "QuakeServer" (53 : Nat) "QuakeServer" "lastMessage" "LQuakeServer$LastMessage;" ∈ qs_gt := qs_mem 161 (by decide +kernel) (by decide +kernel)
theorem t_162 : Jvm.Cond.laysFinal "QuakeServer" "QuakeServer" "entities" "LQuakeServer$Entities;" ∈ qs_gt := qs_mem 162 (by decide +kernel) (by decide +kernel)
theorem t_164 : Jvm.Cond.laysFinal "QuakeServer" "QuakeServer" "walls" "LQuakeServer$Walls;" ∈ qs_gt := qs_mem 164 (by decide +kernel) (by decide +kernel)
theorem t_166 : Jvm.Cond.laysFinal "QuakeServer" "QuakeServer" "program" "LQuakeServer$Program;" ∈ qs_gt := qs_mem 166 (by decide +kernel) (by decide +kernel)
theorem t_168 : Jvm.Cond.laysFinal "QuakeServer" "QuakeServer" "machine" "LQuakeServer$Machine;" ∈ qs_gt := qs_mem 168 (by decide +kernel) (by decide +kernel)
theorem t_170 : Jvm.Cond.laysFinal "QuakeServer" "QuakeServer" "mover" "LQuakeServer$Mover;" ∈ qs_gt := qs_mem 170 (by decide +kernel) (by decide +kernel)
theorem t_172 : Jvm.Cond.laysFinal "QuakeServer" "QuakeServer" "lastMessage" "LQuakeServer$LastMessage;" ∈ qs_gt := qs_mem 172 (by decide +kernel) (by decide +kernel)
theorem t_179 : Jvm.Cond.methodLink "QuakeServer" (175 : Nat) ({ cls := "QuakeServer$LastMessage", name := "differences", desc := "()I" } : Jvm.MethodName) ∈ qs_gt := qs_mem 179 (by decide +kernel) (by decide +kernel)
theorem t_180 : Jvm.Cond.instanceMethod ({ cls := "QuakeServer$LastMessage", name := "differences", desc := "()I" } : Jvm.MethodName) ∈ qs_gt := qs_mem 180 (by decide +kernel) (by decide +kernel)
theorem t_181 : Jvm.Cond.selects "QuakeServer$LastMessage" ({ cls := "QuakeServer$LastMessage", name := "differences", desc := "()I" } : Jvm.MethodName) ({ cls := "QuakeServer$LastMessage", name := "differences", desc := "()I" } : Jvm.MethodName) ∈ qs_gt := qs_mem 181 (by decide +kernel) (by decide +kernel)
theorem t_182 : Jvm.Cond.code ({ cls := "QuakeServer$LastMessage", name := "differences", desc := "()I" } : Jvm.MethodName) prog_3_method_3_code (3 : Nat) (Option.some Jvm.ClassFile.FieldType.int) ∈ qs_gt := qs_mem 182 (by decide +kernel) (by decide +kernel)
theorem t_183 : Jvm.Cond.methodLink "QuakeServer$LastMessage" (29 : Nat) ({ cls := "QuakeServer$LastMessage", name := "now", desc := "(I)I" } : Jvm.MethodName) ∈ qs_gt := qs_mem 183 (by decide +kernel) (by decide +kernel)
theorem t_185 : Jvm.Cond.instanceMethod ({ cls := "QuakeServer$LastMessage", name := "now", desc := "(I)I" } : Jvm.MethodName) ∈ qs_gt := qs_mem 185 (by decide +kernel) (by decide +kernel)
theorem t_186 : Jvm.Cond.code ({ cls := "QuakeServer$LastMessage", name := "now", desc := "(I)I" } : Jvm.MethodName) prog_3_method_2_code (4 : Nat) (Option.some Jvm.ClassFile.FieldType.int) ∈ qs_gt := qs_mem 186 (by decide +kernel) (by decide +kernel)
theorem t_187 : Jvm.Cond.methodLink "QuakeServer$LastMessage" (19 : Nat) ({ cls := "QuakeServer$Entities", name := "isThere", desc := "(I)Z" } : Jvm.MethodName) ∈ qs_gt := qs_mem 187 (by decide +kernel) (by decide +kernel)
theorem t_188 : Jvm.Cond.instanceMethod ({ cls := "QuakeServer$Entities", name := "isThere", desc := "(I)Z" } : Jvm.MethodName) ∈ qs_gt := qs_mem 188 (by decide +kernel) (by decide +kernel)
theorem t_189 : Jvm.Cond.selects "QuakeServer$Entities" ({ cls := "QuakeServer$Entities", name := "isThere", desc := "(I)Z" } : Jvm.MethodName) ({ cls := "QuakeServer$Entities", name := "isThere", desc := "(I)Z" } : Jvm.MethodName) ∈ qs_gt := qs_mem 189 (by decide +kernel) (by decide +kernel)
theorem t_190 : Jvm.Cond.code ({ cls := "QuakeServer$Entities", name := "isThere", desc := "(I)Z" } : Jvm.MethodName) prog_2_method_2_code (2 : Nat) (Option.some Jvm.ClassFile.FieldType.boolean) ∈ qs_gt := qs_mem 190 (by decide +kernel) (by decide +kernel)
theorem t_191 : Jvm.Cond.methodLink "QuakeServer$LastMessage" (25 : Nat) ({ cls := "QuakeServer$Entities", name := "field", desc := "(II)I" } : Jvm.MethodName) ∈ qs_gt := qs_mem 191 (by decide +kernel) (by decide +kernel)
theorem t_192 : Jvm.Cond.instanceMethod ({ cls := "QuakeServer$Entities", name := "field", desc := "(II)I" } : Jvm.MethodName) ∈ qs_gt := qs_mem 192 (by decide +kernel) (by decide +kernel)
theorem t_193 : Jvm.Cond.selects "QuakeServer$Entities" ({ cls := "QuakeServer$Entities", name := "field", desc := "(II)I" } : Jvm.MethodName) ({ cls := "QuakeServer$Entities", name := "field", desc := "(II)I" } : Jvm.MethodName) ∈ qs_gt := qs_mem 193 (by decide +kernel) (by decide +kernel)
theorem t_194 : Jvm.Cond.code ({ cls := "QuakeServer$Entities", name := "field", desc := "(II)I" } : Jvm.MethodName) prog_2_method_7_code (3 : Nat) (Option.some Jvm.ClassFile.FieldType.int) ∈ qs_gt := qs_mem 194 (by decide +kernel) (by decide +kernel)
theorem t_199 : Jvm.Cond.methodLink "QuakeServer" (183 : Nat) ({ cls := "QuakeServer$LastMessage", name := "tellAll", desc := "()V" } : Jvm.MethodName) ∈ qs_gt := qs_mem 199 (by decide +kernel) (by decide +kernel)
theorem t_200 : Jvm.Cond.instanceMethod ({ cls := "QuakeServer$LastMessage", name := "tellAll", desc := "()V" } : Jvm.MethodName) ∈ qs_gt := qs_mem 200 (by decide +kernel) (by decide +kernel)
theorem t_201 : Jvm.Cond.selects "QuakeServer$LastMessage" ({ cls := "QuakeServer$LastMessage", name := "tellAll", desc := "()V" } : Jvm.MethodName) ({ cls := "QuakeServer$LastMessage", name := "tellAll", desc := "()V" } : Jvm.MethodName) ∈ qs_gt := qs_mem 201 (by decide +kernel) (by decide +kernel)
theorem t_202 : Jvm.Cond.code ({ cls := "QuakeServer$LastMessage", name := "tellAll", desc := "()V" } : Jvm.MethodName) prog_3_method_5_code (2 : Nat) (Option.none : Option Jvm.ClassFile.FieldType) ∈ qs_gt := qs_mem 202 (by decide +kernel) (by decide +kernel)
theorem t_311 : Jvm.Cond.methodLink "QuakeServer" (83 : Nat) ({ cls := "QuakeServer", name := "isBelow", desc := "(II)Z" } : Jvm.MethodName) ∈ qs_gt := qs_mem 311 (by decide +kernel) (by decide +kernel)
theorem t_312 : Jvm.Cond.static ({ cls := "QuakeServer", name := "isBelow", desc := "(II)Z" } : Jvm.MethodName) ∈ qs_gt := qs_mem 312 (by decide +kernel) (by decide +kernel)
theorem t_313 : Jvm.Cond.code ({ cls := "QuakeServer", name := "isBelow", desc := "(II)Z" } : Jvm.MethodName) prog_1_method_16_code (2 : Nat) (Option.some Jvm.ClassFile.FieldType.boolean) ∈ qs_gt := qs_mem 313 (by decide +kernel) (by decide +kernel)
theorem t_320 : Jvm.Cond.instanceMethod ({ cls := "QuakeServer$Program", name := "length", desc := "(I)I" } : Jvm.MethodName) ∈ qs_gt := qs_mem 320 (by decide +kernel) (by decide +kernel)
theorem t_321 : Jvm.Cond.selects "QuakeServer$Program" ({ cls := "QuakeServer$Program", name := "length", desc := "(I)I" } : Jvm.MethodName) ({ cls := "QuakeServer$Program", name := "length", desc := "(I)I" } : Jvm.MethodName) ∈ qs_gt := qs_mem 321 (by decide +kernel) (by decide +kernel)
theorem t_322 : Jvm.Cond.code ({ cls := "QuakeServer$Program", name := "length", desc := "(I)I" } : Jvm.MethodName) prog_6_method_3_code (2 : Nat) (Option.some Jvm.ClassFile.FieldType.int) ∈ qs_gt := qs_mem 322 (by decide +kernel) (by decide +kernel)
theorem t_328 : Jvm.Cond.methodLink "QuakeServer$Program" (22 : Nat) ({ cls := "QuakeServer$Program", name := "firstPart", desc := "(II)I" } : Jvm.MethodName) ∈ qs_gt := qs_mem 328 (by decide +kernel) (by decide +kernel)
theorem t_329 : Jvm.Cond.instanceMethod ({ cls := "QuakeServer$Program", name := "firstPart", desc := "(II)I" } : Jvm.MethodName) ∈ qs_gt := qs_mem 329 (by decide +kernel) (by decide +kernel)
theorem t_330 : Jvm.Cond.selects "QuakeServer$Program" ({ cls := "QuakeServer$Program", name := "firstPart", desc := "(II)I" } : Jvm.MethodName) ({ cls := "QuakeServer$Program", name := "firstPart", desc := "(II)I" } : Jvm.MethodName) ∈ qs_gt := qs_mem 330 (by decide +kernel) (by decide +kernel)
theorem t_331 : Jvm.Cond.code ({ cls := "QuakeServer$Program", name := "firstPart", desc := "(II)I" } : Jvm.MethodName) prog_6_method_4_code (3 : Nat) (Option.some Jvm.ClassFile.FieldType.int) ∈ qs_gt := qs_mem 331 (by decide +kernel) (by decide +kernel)
theorem t_342 : Jvm.Cond.constantDouble "QuakeServer" (203 : Nat) (13893604850437980160 : UInt64) ∈ qs_gt := qs_mem 342 (by decide +kernel) (by decide +kernel)
theorem t_343 : Jvm.Cond.constantDouble "QuakeServer" (205 : Nat) (4670232813583204352 : UInt64) ∈ qs_gt := qs_mem 343 (by decide +kernel) (by decide +kernel)
theorem t_346 : Jvm.Cond.instanceMethod ({ cls := "QuakeServer$Entities", name := "create", desc := "()I" } : Jvm.MethodName) ∈ qs_gt := qs_mem 346 (by decide +kernel) (by decide +kernel)
theorem t_347 : Jvm.Cond.selects "QuakeServer$Entities" ({ cls := "QuakeServer$Entities", name := "create", desc := "()I" } : Jvm.MethodName) ({ cls := "QuakeServer$Entities", name := "create", desc := "()I" } : Jvm.MethodName) ∈ qs_gt := qs_mem 347 (by decide +kernel) (by decide +kernel)
theorem t_348 : Jvm.Cond.code ({ cls := "QuakeServer$Entities", name := "create", desc := "()I" } : Jvm.MethodName) prog_2_method_4_code (2 : Nat) (Option.some Jvm.ClassFile.FieldType.int) ∈ qs_gt := qs_mem 348 (by decide +kernel) (by decide +kernel)
theorem t_353 : Jvm.Cond.constantDouble "QuakeServer" (207 : Nat) (4620693217682128896 : UInt64) ∈ qs_gt := qs_mem 353 (by decide +kernel) (by decide +kernel)
theorem t_355 : Jvm.Cond.instanceMethod ({ cls := "QuakeServer$Entities", name := "put", desc := "(III)V" } : Jvm.MethodName) ∈ qs_gt := qs_mem 355 (by decide +kernel) (by decide +kernel)
theorem t_356 : Jvm.Cond.selects "QuakeServer$Entities" ({ cls := "QuakeServer$Entities", name := "put", desc := "(III)V" } : Jvm.MethodName) ({ cls := "QuakeServer$Entities", name := "put", desc := "(III)V" } : Jvm.MethodName) ∈ qs_gt := qs_mem 356 (by decide +kernel) (by decide +kernel)
theorem t_357 : Jvm.Cond.code ({ cls := "QuakeServer$Entities", name := "put", desc := "(III)V" } : Jvm.MethodName) prog_2_method_9_code (4 : Nat) (Option.none : Option Jvm.ClassFile.FieldType) ∈ qs_gt := qs_mem 357 (by decide +kernel) (by decide +kernel)
theorem t_358 : Jvm.Cond.methodLink "QuakeServer$Entities" (19 : Nat) ({ cls := "QuakeServer$Entities", name := "isThere", desc := "(I)Z" } : Jvm.MethodName) ∈ qs_gt := qs_mem 358 (by decide +kernel) (by decide +kernel)
theorem t_385 : Jvm.Cond.instanceMethod ({ cls := "QuakeServer$Entities", name := "erase", desc := "(I)V" } : Jvm.MethodName) ∈ qs_gt := qs_mem 385 (by decide +kernel) (by decide +kernel)
theorem t_386 : Jvm.Cond.selects "QuakeServer$Entities" ({ cls := "QuakeServer$Entities", name := "erase", desc := "(I)V" } : Jvm.MethodName) ({ cls := "QuakeServer$Entities", name := "erase", desc := "(I)V" } : Jvm.MethodName) ∈ qs_gt := qs_mem 386 (by decide +kernel) (by decide +kernel)
theorem t_387 : Jvm.Cond.code ({ cls := "QuakeServer$Entities", name := "erase", desc := "(I)V" } : Jvm.MethodName) prog_2_method_5_code (3 : Nat) (Option.none : Option Jvm.ClassFile.FieldType) ∈ qs_gt := qs_mem 387 (by decide +kernel) (by decide +kernel)
theorem t_415 : Jvm.Cond.constant "QuakeServer" (146 : Nat) (-131072 : Int32) ∈ qs_gt := qs_mem 415 (by decide +kernel) (by decide +kernel)
theorem t_416 : Jvm.Cond.constant "QuakeServer" (147 : Nat) (131072 : Int32) ∈ qs_gt := qs_mem 416 (by decide +kernel) (by decide +kernel)
theorem t_438 : Jvm.Cond.instanceMethod ({ cls := "QuakeServer$Machine", name := "start", desc := "(III)I" } : Jvm.MethodName) ∈ qs_gt := qs_mem 438 (by decide +kernel) (by decide +kernel)
theorem t_439 : Jvm.Cond.selects "QuakeServer$Machine" ({ cls := "QuakeServer$Machine", name := "start", desc := "(III)I" } : Jvm.MethodName) ({ cls := "QuakeServer$Machine", name := "start", desc := "(III)I" } : Jvm.MethodName) ∈ qs_gt := qs_mem 439 (by decide +kernel) (by decide +kernel)
theorem t_440 : Jvm.Cond.code ({ cls := "QuakeServer$Machine", name := "start", desc := "(III)I" } : Jvm.MethodName) prog_4_method_3_code (7 : Nat) (Option.some Jvm.ClassFile.FieldType.int) ∈ qs_gt := qs_mem 440 (by decide +kernel) (by decide +kernel)
theorem t_442 : Jvm.Cond.methodLink "QuakeServer$Machine" (44 : Nat) ({ cls := "QuakeServer$Machine", name := "perform", desc := "(I)I" } : Jvm.MethodName) ∈ qs_gt := qs_mem 442 (by decide +kernel) (by decide +kernel)
theorem t_444 : Jvm.Cond.instanceMethod ({ cls := "QuakeServer$Machine", name := "perform", desc := "(I)I" } : Jvm.MethodName) ∈ qs_gt := qs_mem 444 (by decide +kernel) (by decide +kernel)
theorem t_445 : Jvm.Cond.code ({ cls := "QuakeServer$Machine", name := "perform", desc := "(I)I" } : Jvm.MethodName) prog_4_method_4_code (3 : Nat) (Option.some Jvm.ClassFile.FieldType.int) ∈ qs_gt := qs_mem 445 (by decide +kernel) (by decide +kernel)
theorem t_446 : Jvm.Cond.methodLink "QuakeServer$Machine" (58 : Nat) ({ cls := "QuakeServer$Machine", name := "leaveEndedFunctions", desc := "()V" } : Jvm.MethodName) ∈ qs_gt := qs_mem 446 (by decide +kernel) (by decide +kernel)
theorem t_448 : Jvm.Cond.instanceMethod ({ cls := "QuakeServer$Machine", name := "leaveEndedFunctions", desc := "()V" } : Jvm.MethodName) ∈ qs_gt := qs_mem 448 (by decide +kernel) (by decide +kernel)
theorem t_449 : Jvm.Cond.code ({ cls := "QuakeServer$Machine", name := "leaveEndedFunctions", desc := "()V" } : Jvm.MethodName) prog_4_method_5_code (1 : Nat) (Option.none : Option Jvm.ClassFile.FieldType) ∈ qs_gt := qs_mem 449 (by decide +kernel) (by decide +kernel)
theorem t_450 : Jvm.Cond.methodLink "QuakeServer$Machine" (67 : Nat) ({ cls := "QuakeServer$Program", name := "length", desc := "(I)I" } : Jvm.MethodName) ∈ qs_gt := qs_mem 450 (by decide +kernel) (by decide +kernel)
theorem t_451 : Jvm.Cond.methodLink "QuakeServer$Machine" (61 : Nat) ({ cls := "QuakeServer$Machine", name := "step", desc := "()V" } : Jvm.MethodName) ∈ qs_gt := qs_mem 451 (by decide +kernel) (by decide +kernel)
theorem t_453 : Jvm.Cond.instanceMethod ({ cls := "QuakeServer$Machine", name := "step", desc := "()V" } : Jvm.MethodName) ∈ qs_gt := qs_mem 453 (by decide +kernel) (by decide +kernel)
theorem t_454 : Jvm.Cond.code ({ cls := "QuakeServer$Machine", name := "step", desc := "()V" } : Jvm.MethodName) prog_4_method_6_code (6 : Nat) (Option.none : Option Jvm.ClassFile.FieldType) ∈ qs_gt := qs_mem 454 (by decide +kernel) (by decide +kernel)
theorem t_455 : Jvm.Cond.methodLink "QuakeServer$Machine" (72 : Nat) ({ cls := "QuakeServer$Program", name := "firstPart", desc := "(II)I" } : Jvm.MethodName) ∈ qs_gt := qs_mem 455 (by decide +kernel) (by decide +kernel)
theorem t_457 : Jvm.Cond.static ({ cls := "QuakeServer", name := "wholeOf", desc := "(I)I" } : Jvm.MethodName) ∈ qs_gt := qs_mem 457 (by decide +kernel) (by decide +kernel)
theorem t_458 : Jvm.Cond.code ({ cls := "QuakeServer", name := "wholeOf", desc := "(I)I" } : Jvm.MethodName) prog_1_method_22_code (1 : Nat) (Option.some Jvm.ClassFile.FieldType.int) ∈ qs_gt := qs_mem 458 (by decide +kernel) (by decide +kernel)
theorem t_459 : Jvm.Cond.methodLink "QuakeServer$Machine" (82 : Nat) ({ cls := "QuakeServer$Entities", name := "put", desc := "(III)V" } : Jvm.MethodName) ∈ qs_gt := qs_mem 459 (by decide +kernel) (by decide +kernel)
theorem t_460 : Jvm.Cond.methodLink "QuakeServer$Machine" (88 : Nat) ({ cls := "QuakeServer$Machine", name := "enter", desc := "(I)V" } : Jvm.MethodName) ∈ qs_gt := qs_mem 460 (by decide +kernel) (by decide +kernel)
theorem t_462 : Jvm.Cond.instanceMethod ({ cls := "QuakeServer$Machine", name := "enter", desc := "(I)V" } : Jvm.MethodName) ∈ qs_gt := qs_mem 462 (by decide +kernel) (by decide +kernel)
theorem t_463 : Jvm.Cond.code ({ cls := "QuakeServer$Machine", name := "enter", desc := "(I)V" } : Jvm.MethodName) prog_4_method_7_code (2 : Nat) (Option.none : Option Jvm.ClassFile.FieldType) ∈ qs_gt := qs_mem 463 (by decide +kernel) (by decide +kernel)
theorem t_464 : Jvm.Cond.methodLink "QuakeServer$Machine" (92 : Nat) ({ cls := "QuakeServer$Entities", name := "erase", desc := "(I)V" } : Jvm.MethodName) ∈ qs_gt := qs_mem 464 (by decide +kernel) (by decide +kernel)
theorem t_465 : Jvm.Cond.methodLink "QuakeServer$Machine" (95 : Nat) ({ cls := "QuakeServer$Machine", name := "result", desc := "(III)I" } : Jvm.MethodName) ∈ qs_gt := qs_mem 465 (by decide +kernel) (by decide +kernel)
theorem t_467 : Jvm.Cond.instanceMethod ({ cls := "QuakeServer$Machine", name := "result", desc := "(III)I" } : Jvm.MethodName) ∈ qs_gt := qs_mem 467 (by decide +kernel) (by decide +kernel)
theorem t_468 : Jvm.Cond.code ({ cls := "QuakeServer$Machine", name := "result", desc := "(III)I" } : Jvm.MethodName) prog_4_method_8_code (4 : Nat) (Option.some Jvm.ClassFile.FieldType.int) ∈ qs_gt := qs_mem 468 (by decide +kernel) (by decide +kernel)
theorem t_470 : Jvm.Cond.static ({ cls := "QuakeServer", name := "inRange", desc := "(J)I" } : Jvm.MethodName) ∈ qs_gt := qs_mem 470 (by decide +kernel) (by decide +kernel)
theorem t_471 : Jvm.Cond.code ({ cls := "QuakeServer", name := "inRange", desc := "(J)I" } : Jvm.MethodName) prog_1_method_23_code (2 : Nat) (Option.some Jvm.ClassFile.FieldType.int) ∈ qs_gt := qs_mem 471 (by decide +kernel) (by decide +kernel)
theorem t_472 : Jvm.Cond.constantLong "QuakeServer" (209 : Nat) (131072 : Int64) ∈ qs_gt := qs_mem 472 (by decide +kernel) (by decide +kernel)
theorem t_473 : Jvm.Cond.constantLong "QuakeServer" (211 : Nat) (-131072 : Int64) ∈ qs_gt := qs_mem 473 (by decide +kernel) (by decide +kernel)
theorem t_474 : Jvm.Cond.constantLong "QuakeServer$Machine" (99 : Nat) (8 : Int64) ∈ qs_gt := qs_mem 474 (by decide +kernel) (by decide +kernel)
theorem t_475 : Jvm.Cond.methodLink "QuakeServer$Machine" (101 : Nat) ({ cls := "java/lang/Math", name := "floorDiv", desc := "(JJ)J" } : Jvm.MethodName) ∈ qs_gt := qs_mem 475 (by decide +kernel) (by decide +kernel)
theorem t_476 : Jvm.Cond.static ({ cls := "java/lang/Math", name := "floorDiv", desc := "(JJ)J" } : Jvm.MethodName) ∈ qs_gt := qs_mem 476 (by decide +kernel) (by decide +kernel)
theorem t_477 : Jvm.Cond.code ({ cls := "java/lang/Math", name := "floorDiv", desc := "(JJ)J" } : Jvm.MethodName) prog_13_method_49_code (6 : Nat) (Option.some Jvm.ClassFile.FieldType.long) ∈ qs_gt := qs_mem 477 (by decide +kernel) (by decide +kernel)
theorem t_478 : Jvm.Cond.methodLink "QuakeServer$Machine" (107 : Nat) ({ cls := "QuakeServer$Entities", name := "field", desc := "(II)I" } : Jvm.MethodName) ∈ qs_gt := qs_mem 478 (by decide +kernel) (by decide +kernel)
theorem t_479 : Jvm.Cond.methodLink "QuakeServer$Machine" (110 : Nat) ({ cls := "QuakeServer$Entities", name := "create", desc := "()I" } : Jvm.MethodName) ∈ qs_gt := qs_mem 479 (by decide +kernel) (by decide +kernel)
theorem t_480 : Jvm.Cond.methodLink "QuakeServer$Machine" (114 : Nat) ({ cls := "QuakeServer$Entities", name := "firstBehind", desc := "(I)I" } : Jvm.MethodName) ∈ qs_gt := qs_mem 480 (by decide +kernel) (by decide +kernel)
theorem t_481 : Jvm.Cond.instanceMethod ({ cls := "QuakeServer$Entities", name := "firstBehind", desc := "(I)I" } : Jvm.MethodName) ∈ qs_gt := qs_mem 481 (by decide +kernel) (by decide +kernel)
theorem t_482 : Jvm.Cond.selects "QuakeServer$Entities" ({ cls := "QuakeServer$Entities", name := "firstBehind", desc := "(I)I" } : Jvm.MethodName) ({ cls := "QuakeServer$Entities", name := "firstBehind", desc := "(I)I" } : Jvm.MethodName) ∈ qs_gt := qs_mem 482 (by decide +kernel) (by decide +kernel)
theorem t_483 : Jvm.Cond.code ({ cls := "QuakeServer$Entities", name := "firstBehind", desc := "(I)I" } : Jvm.MethodName) prog_2_method_6_code (3 : Nat) (Option.some Jvm.ClassFile.FieldType.int) ∈ qs_gt := qs_mem 483 (by decide +kernel) (by decide +kernel)
theorem t_484 : Jvm.Cond.methodLink "QuakeServer$Machine" (117 : Nat) ({ cls := "QuakeServer$Machine", name := "draw", desc := "()I" } : Jvm.MethodName) ∈ qs_gt := qs_mem 484 (by decide +kernel) (by decide +kernel)
theorem t_486 : Jvm.Cond.instanceMethod ({ cls := "QuakeServer$Machine", name := "draw", desc := "()I" } : Jvm.MethodName) ∈ qs_gt := qs_mem 486 (by decide +kernel) (by decide +kernel)
theorem t_487 : Jvm.Cond.code ({ cls := "QuakeServer$Machine", name := "draw", desc := "()I" } : Jvm.MethodName) prog_4_method_9_code (1 : Nat) (Option.some Jvm.ClassFile.FieldType.int) ∈ qs_gt := qs_mem 487 (by decide +kernel) (by decide +kernel)
theorem t_488 : Jvm.Cond.constantLong "QuakeServer$Machine" (120 : Nat) (1103515245 : Int64) ∈ qs_gt := qs_mem 488 (by decide +kernel) (by decide +kernel)
theorem t_489 : Jvm.Cond.constantLong "QuakeServer$Machine" (122 : Nat) (12345 : Int64) ∈ qs_gt := qs_mem 489 (by decide +kernel) (by decide +kernel)
theorem t_490 : Jvm.Cond.constantLong "QuakeServer$Machine" (124 : Nat) (2147483648 : Int64) ∈ qs_gt := qs_mem 490 (by decide +kernel) (by decide +kernel)
theorem t_491 : Jvm.Cond.constant "QuakeServer$Machine" (126 : Nat) (65536 : Int32) ∈ qs_gt := qs_mem 491 (by decide +kernel) (by decide +kernel)
theorem t_508 : Jvm.Cond.methodLink "QuakeServer$Mover" (23 : Nat) ({ cls := "QuakeServer$Entities", name := "wholeField", desc := "(II)I" } : Jvm.MethodName) ∈ qs_gt := qs_mem 508 (by decide +kernel) (by decide +kernel)
theorem t_509 : Jvm.Cond.instanceMethod ({ cls := "QuakeServer$Entities", name := "wholeField", desc := "(II)I" } : Jvm.MethodName) ∈ qs_gt := qs_mem 509 (by decide +kernel) (by decide +kernel)
theorem t_510 : Jvm.Cond.selects "QuakeServer$Entities" ({ cls := "QuakeServer$Entities", name := "wholeField", desc := "(II)I" } : Jvm.MethodName) ({ cls := "QuakeServer$Entities", name := "wholeField", desc := "(II)I" } : Jvm.MethodName) ∈ qs_gt := qs_mem 510 (by decide +kernel) (by decide +kernel)
theorem t_511 : Jvm.Cond.code ({ cls := "QuakeServer$Entities", name := "wholeField", desc := "(II)I" } : Jvm.MethodName) prog_2_method_8_code (3 : Nat) (Option.some Jvm.ClassFile.FieldType.int) ∈ qs_gt := qs_mem 511 (by decide +kernel) (by decide +kernel)
theorem t_512 : Jvm.Cond.methodLink "QuakeServer$Entities" (23 : Nat) ({ cls := "QuakeServer$Entities", name := "field", desc := "(II)I" } : Jvm.MethodName) ∈ qs_gt := qs_mem 512 (by decide +kernel) (by decide +kernel)
theorem t_514 : Jvm.Cond.methodLink "QuakeServer$Mover" (29 : Nat) ({ cls := "QuakeServer$Entities", name := "field", desc := "(II)I" } : Jvm.MethodName) ∈ qs_gt := qs_mem 514 (by decide +kernel) (by decide +kernel)
theorem t_516 : Jvm.Cond.methodLink "QuakeServer$Mover" (36 : Nat) ({ cls := "QuakeServer$Entities", name := "put", desc := "(III)V" } : Jvm.MethodName) ∈ qs_gt := qs_mem 516 (by decide +kernel) (by decide +kernel)
theorem t_517 : Jvm.Cond.methodLink "QuakeServer$Mover" (40 : Nat) ({ cls := "QuakeServer$Mover", name := "travel", desc := "(II)V" } : Jvm.MethodName) ∈ qs_gt := qs_mem 517 (by decide +kernel) (by decide +kernel)
theorem t_519 : Jvm.Cond.instanceMethod ({ cls := "QuakeServer$Mover", name := "travel", desc := "(II)V" } : Jvm.MethodName) ∈ qs_gt := qs_mem 519 (by decide +kernel) (by decide +kernel)
theorem t_520 : Jvm.Cond.code ({ cls := "QuakeServer$Mover", name := "travel", desc := "(II)V" } : Jvm.MethodName) prog_5_method_3_code (4 : Nat) (Option.none : Option Jvm.ClassFile.FieldType) ∈ qs_gt := qs_mem 520 (by decide +kernel) (by decide +kernel)
theorem t_521 : Jvm.Cond.methodLink "QuakeServer$Mover" (51 : Nat) ({ cls := "QuakeServer$Mover", name := "go", desc := "(II)I" } : Jvm.MethodName) ∈ qs_gt := qs_mem 521 (by decide +kernel) (by decide +kernel)
theorem t_523 : Jvm.Cond.instanceMethod ({ cls := "QuakeServer$Mover", name := "go", desc := "(II)I" } : Jvm.MethodName) ∈ qs_gt := qs_mem 523 (by decide +kernel) (by decide +kernel)
theorem t_524 : Jvm.Cond.code ({ cls := "QuakeServer$Mover", name := "go", desc := "(II)I" } : Jvm.MethodName) prog_5_method_4_code (7 : Nat) (Option.some Jvm.ClassFile.FieldType.int) ∈ qs_gt := qs_mem 524 (by decide +kernel) (by decide +kernel)
theorem t_525 : Jvm.Cond.methodLink "QuakeServer$Mover" (68 : Nat) ({ cls := "java/lang/Math", name := "floorDiv", desc := "(II)I" } : Jvm.MethodName) ∈ qs_gt := qs_mem 525 (by decide +kernel) (by decide +kernel)
theorem t_526 : Jvm.Cond.static ({ cls := "java/lang/Math", name := "floorDiv", desc := "(II)I" } : Jvm.MethodName) ∈ qs_gt := qs_mem 526 (by decide +kernel) (by decide +kernel)
theorem t_527 : Jvm.Cond.code ({ cls := "java/lang/Math", name := "floorDiv", desc := "(II)I" } : Jvm.MethodName) prog_13_method_47_code (3 : Nat) (Option.some Jvm.ClassFile.FieldType.int) ∈ qs_gt := qs_mem 527 (by decide +kernel) (by decide +kernel)
theorem t_528 : Jvm.Cond.methodLink "QuakeServer$Mover" (73 : Nat) ({ cls := "java/lang/Math", name := "abs", desc := "(I)I" } : Jvm.MethodName) ∈ qs_gt := qs_mem 528 (by decide +kernel) (by decide +kernel)
theorem t_529 : Jvm.Cond.static ({ cls := "java/lang/Math", name := "abs", desc := "(I)I" } : Jvm.MethodName) ∈ qs_gt := qs_mem 529 (by decide +kernel) (by decide +kernel)
theorem t_530 : Jvm.Cond.code ({ cls := "java/lang/Math", name := "abs", desc := "(I)I" } : Jvm.MethodName) prog_13_method_59_code (1 : Nat) (Option.some Jvm.ClassFile.FieldType.int) ∈ qs_gt := qs_mem 530 (by decide +kernel) (by decide +kernel)
theorem t_531 : Jvm.Cond.methodLink "QuakeServer$Mover" (83 : Nat) ({ cls := "QuakeServer$Mover", name := "meetWalls", desc := "(IIZ)V" } : Jvm.MethodName) ∈ qs_gt := qs_mem 531 (by decide +kernel) (by decide +kernel)
theorem t_533 : Jvm.Cond.instanceMethod ({ cls := "QuakeServer$Mover", name := "meetWalls", desc := "(IIZ)V" } : Jvm.MethodName) ∈ qs_gt := qs_mem 533 (by decide +kernel) (by decide +kernel)
theorem t_534 : Jvm.Cond.code ({ cls := "QuakeServer$Mover", name := "meetWalls", desc := "(IIZ)V" } : Jvm.MethodName) prog_5_method_5_code (9 : Nat) (Option.none : Option Jvm.ClassFile.FieldType) ∈ qs_gt := qs_mem 534 (by decide +kernel) (by decide +kernel)
theorem t_535 : Jvm.Cond.methodLink "QuakeServer$Mover" (90 : Nat) ({ cls := "QuakeServer$Entities", name := "low", desc := "(II)I" } : Jvm.MethodName) ∈ qs_gt := qs_mem 535 (by decide +kernel) (by decide +kernel)
theorem t_536 : Jvm.Cond.instanceMethod ({ cls := "QuakeServer$Entities", name := "low", desc := "(II)I" } : Jvm.MethodName) ∈ qs_gt := qs_mem 536 (by decide +kernel) (by decide +kernel)
theorem t_537 : Jvm.Cond.selects "QuakeServer$Entities" ({ cls := "QuakeServer$Entities", name := "low", desc := "(II)I" } : Jvm.MethodName) ({ cls := "QuakeServer$Entities", name := "low", desc := "(II)I" } : Jvm.MethodName) ∈ qs_gt := qs_mem 537 (by decide +kernel) (by decide +kernel)
theorem t_538 : Jvm.Cond.code ({ cls := "QuakeServer$Entities", name := "low", desc := "(II)I" } : Jvm.MethodName) prog_2_method_10_code (3 : Nat) (Option.some Jvm.ClassFile.FieldType.int) ∈ qs_gt := qs_mem 538 (by decide +kernel) (by decide +kernel)
theorem t_539 : Jvm.Cond.methodLink "QuakeServer$Entities" (31 : Nat) ({ cls := "QuakeServer$Entities", name := "sizeUsed", desc := "(I)I" } : Jvm.MethodName) ∈ qs_gt := qs_mem 539 (by decide +kernel) (by decide +kernel)
theorem t_541 : Jvm.Cond.instanceMethod ({ cls := "QuakeServer$Entities", name := "sizeUsed", desc := "(I)I" } : Jvm.MethodName) ∈ qs_gt := qs_mem 541 (by decide +kernel) (by decide +kernel)
theorem t_542 : Jvm.Cond.code ({ cls := "QuakeServer$Entities", name := "sizeUsed", desc := "(I)I" } : Jvm.MethodName) prog_2_method_12_code (3 : Nat) (Option.some Jvm.ClassFile.FieldType.int) ∈ qs_gt := qs_mem 542 (by decide +kernel) (by decide +kernel)
theorem t_543 : Jvm.Cond.methodLink "QuakeServer$Entities" (34 : Nat) ({ cls := "java/lang/Math", name := "min", desc := "(II)I" } : Jvm.MethodName) ∈ qs_gt := qs_mem 543 (by decide +kernel) (by decide +kernel)
theorem t_544 : Jvm.Cond.static ({ cls := "java/lang/Math", name := "min", desc := "(II)I" } : Jvm.MethodName) ∈ qs_gt := qs_mem 544 (by decide +kernel) (by decide +kernel)
theorem t_545 : Jvm.Cond.code ({ cls := "java/lang/Math", name := "min", desc := "(II)I" } : Jvm.MethodName) prog_13_method_69_code (2 : Nat) (Option.some Jvm.ClassFile.FieldType.int) ∈ qs_gt := qs_mem 545 (by decide +kernel) (by decide +kernel)
theorem t_546 : Jvm.Cond.methodLink "QuakeServer$Entities" (39 : Nat) ({ cls := "java/lang/Math", name := "max", desc := "(II)I" } : Jvm.MethodName) ∈ qs_gt := qs_mem 546 (by decide +kernel) (by decide +kernel)
theorem t_547 : Jvm.Cond.static ({ cls := "java/lang/Math", name := "max", desc := "(II)I" } : Jvm.MethodName) ∈ qs_gt := qs_mem 547 (by decide +kernel) (by decide +kernel)
theorem t_548 : Jvm.Cond.code ({ cls := "java/lang/Math", name := "max", desc := "(II)I" } : Jvm.MethodName) prog_13_method_65_code (2 : Nat) (Option.some Jvm.ClassFile.FieldType.int) ∈ qs_gt := qs_mem 548 (by decide +kernel) (by decide +kernel)
theorem t_549 : Jvm.Cond.methodLink "QuakeServer$Mover" (93 : Nat) ({ cls := "QuakeServer$Entities", name := "high", desc := "(II)I" } : Jvm.MethodName) ∈ qs_gt := qs_mem 549 (by decide +kernel) (by decide +kernel)
theorem t_550 : Jvm.Cond.instanceMethod ({ cls := "QuakeServer$Entities", name := "high", desc := "(II)I" } : Jvm.MethodName) ∈ qs_gt := qs_mem 550 (by decide +kernel) (by decide +kernel)
theorem t_551 : Jvm.Cond.selects "QuakeServer$Entities" ({ cls := "QuakeServer$Entities", name := "high", desc := "(II)I" } : Jvm.MethodName) ({ cls := "QuakeServer$Entities", name := "high", desc := "(II)I" } : Jvm.MethodName) ∈ qs_gt := qs_mem 551 (by decide +kernel) (by decide +kernel)
theorem t_552 : Jvm.Cond.code ({ cls := "QuakeServer$Entities", name := "high", desc := "(II)I" } : Jvm.MethodName) prog_2_method_11_code (3 : Nat) (Option.some Jvm.ClassFile.FieldType.int) ∈ qs_gt := qs_mem 552 (by decide +kernel) (by decide +kernel)
theorem t_553 : Jvm.Cond.methodLink "QuakeServer$Mover" (101 : Nat) ({ cls := "QuakeServer$Walls", name := "high", desc := "(II)I" } : Jvm.MethodName) ∈ qs_gt := qs_mem 553 (by decide +kernel) (by decide +kernel)
theorem t_554 : Jvm.Cond.instanceMethod ({ cls := "QuakeServer$Walls", name := "high", desc := "(II)I" } : Jvm.MethodName) ∈ qs_gt := qs_mem 554 (by decide +kernel) (by decide +kernel)
theorem t_555 : Jvm.Cond.selects "QuakeServer$Walls" ({ cls := "QuakeServer$Walls", name := "high", desc := "(II)I" } : Jvm.MethodName) ({ cls := "QuakeServer$Walls", name := "high", desc := "(II)I" } : Jvm.MethodName) ∈ qs_gt := qs_mem 555 (by decide +kernel) (by decide +kernel)
theorem t_556 : Jvm.Cond.code ({ cls := "QuakeServer$Walls", name := "high", desc := "(II)I" } : Jvm.MethodName) prog_7_method_4_code (3 : Nat) (Option.some Jvm.ClassFile.FieldType.int) ∈ qs_gt := qs_mem 556 (by decide +kernel) (by decide +kernel)
theorem t_557 : Jvm.Cond.methodLink "QuakeServer$Mover" (102 : Nat) ({ cls := "QuakeServer$Walls", name := "low", desc := "(II)I" } : Jvm.MethodName) ∈ qs_gt := qs_mem 557 (by decide +kernel) (by decide +kernel)
theorem t_558 : Jvm.Cond.instanceMethod ({ cls := "QuakeServer$Walls", name := "low", desc := "(II)I" } : Jvm.MethodName) ∈ qs_gt := qs_mem 558 (by decide +kernel) (by decide +kernel)
theorem t_559 : Jvm.Cond.selects "QuakeServer$Walls" ({ cls := "QuakeServer$Walls", name := "low", desc := "(II)I" } : Jvm.MethodName) ({ cls := "QuakeServer$Walls", name := "low", desc := "(II)I" } : Jvm.MethodName) ∈ qs_gt := qs_mem 559 (by decide +kernel) (by decide +kernel)
theorem t_560 : Jvm.Cond.code ({ cls := "QuakeServer$Walls", name := "low", desc := "(II)I" } : Jvm.MethodName) prog_7_method_3_code (3 : Nat) (Option.some Jvm.ClassFile.FieldType.int) ∈ qs_gt := qs_mem 560 (by decide +kernel) (by decide +kernel)
theorem t_561 : Jvm.Cond.methodLink "QuakeServer$Mover" (103 : Nat) ({ cls := "QuakeServer$Mover", name := "meet", desc := "(II)V" } : Jvm.MethodName) ∈ qs_gt := qs_mem 561 (by decide +kernel) (by decide +kernel)
theorem t_563 : Jvm.Cond.instanceMethod ({ cls := "QuakeServer$Mover", name := "meet", desc := "(II)V" } : Jvm.MethodName) ∈ qs_gt := qs_mem 563 (by decide +kernel) (by decide +kernel)
theorem t_564 : Jvm.Cond.code ({ cls := "QuakeServer$Mover", name := "meet", desc := "(II)V" } : Jvm.MethodName) prog_5_method_8_code (3 : Nat) (Option.none : Option Jvm.ClassFile.FieldType) ∈ qs_gt := qs_mem 564 (by decide +kernel) (by decide +kernel)
theorem t_565 : Jvm.Cond.methodLink "QuakeServer$Mover" (87 : Nat) ({ cls := "QuakeServer$Mover", name := "meetEntities", desc := "(IIZ)V" } : Jvm.MethodName) ∈ qs_gt := qs_mem 565 (by decide +kernel) (by decide +kernel)
theorem t_567 : Jvm.Cond.instanceMethod ({ cls := "QuakeServer$Mover", name := "meetEntities", desc := "(IIZ)V" } : Jvm.MethodName) ∈ qs_gt := qs_mem 567 (by decide +kernel) (by decide +kernel)
theorem t_568 : Jvm.Cond.code ({ cls := "QuakeServer$Mover", name := "meetEntities", desc := "(IIZ)V" } : Jvm.MethodName) prog_5_method_6_code (6 : Nat) (Option.none : Option Jvm.ClassFile.FieldType) ∈ qs_gt := qs_mem 568 (by decide +kernel) (by decide +kernel)
theorem t_569 : Jvm.Cond.methodLink "QuakeServer$Mover" (106 : Nat) ({ cls := "QuakeServer$Mover", name := "mayBlock", desc := "(II)Z" } : Jvm.MethodName) ∈ qs_gt := qs_mem 569 (by decide +kernel) (by decide +kernel)
theorem t_571 : Jvm.Cond.instanceMethod ({ cls := "QuakeServer$Mover", name := "mayBlock", desc := "(II)Z" } : Jvm.MethodName) ∈ qs_gt := qs_mem 571 (by decide +kernel) (by decide +kernel)
theorem t_572 : Jvm.Cond.code ({ cls := "QuakeServer$Mover", name := "mayBlock", desc := "(II)Z" } : Jvm.MethodName) prog_5_method_7_code (3 : Nat) (Option.some Jvm.ClassFile.FieldType.boolean) ∈ qs_gt := qs_mem 572 (by decide +kernel) (by decide +kernel)
theorem t_573 : Jvm.Cond.methodLink "QuakeServer$Mover" (110 : Nat) ({ cls := "QuakeServer$Entities", name := "boxesOverlap", desc := "(III)Z" } : Jvm.MethodName) ∈ qs_gt := qs_mem 573 (by decide +kernel) (by decide +kernel)
theorem t_574 : Jvm.Cond.instanceMethod ({ cls := "QuakeServer$Entities", name := "boxesOverlap", desc := "(III)Z" } : Jvm.MethodName) ∈ qs_gt := qs_mem 574 (by decide +kernel) (by decide +kernel)
theorem t_575 : Jvm.Cond.selects "QuakeServer$Entities" ({ cls := "QuakeServer$Entities", name := "boxesOverlap", desc := "(III)Z" } : Jvm.MethodName) ({ cls := "QuakeServer$Entities", name := "boxesOverlap", desc := "(III)Z" } : Jvm.MethodName) ∈ qs_gt := qs_mem 575 (by decide +kernel) (by decide +kernel)
theorem t_576 : Jvm.Cond.code ({ cls := "QuakeServer$Entities", name := "boxesOverlap", desc := "(III)Z" } : Jvm.MethodName) prog_2_method_13_code (5 : Nat) (Option.some Jvm.ClassFile.FieldType.boolean) ∈ qs_gt := qs_mem 576 (by decide +kernel) (by decide +kernel)
theorem t_577 : Jvm.Cond.methodLink "QuakeServer$Entities" (42 : Nat) ({ cls := "java/lang/Math", name := "abs", desc := "(I)I" } : Jvm.MethodName) ∈ qs_gt := qs_mem 577 (by decide +kernel) (by decide +kernel)
theorem t_578 : Jvm.Cond.methodLink "QuakeServer$Mover" (58 : Nat) ({ cls := "QuakeServer$Machine", name := "start", desc := "(III)I" } : Jvm.MethodName) ∈ qs_gt := qs_mem 578 (by decide +kernel) (by decide +kernel)
theorem t_579 : Jvm.Cond.methodLink "QuakeServer$Mover" (64 : Nat) ({ cls := "QuakeServer$Entities", name := "isThere", desc := "(I)Z" } : Jvm.MethodName) ∈ qs_gt := qs_mem 579 (by decide +kernel) (by decide +kernel)
theorem t_580 : Jvm.Cond.methodLink "QuakeServer$Mover" (44 : Nat) ({ cls := "QuakeServer$Mover", name := "touchTriggers", desc := "(I)V" } : Jvm.MethodName) ∈ qs_gt := qs_mem 580 (by decide +kernel) (by decide +kernel)
theorem t_582 : Jvm.Cond.instanceMethod ({ cls := "QuakeServer$Mover", name := "touchTriggers", desc := "(I)V" } : Jvm.MethodName) ∈ qs_gt := qs_mem 582 (by decide +kernel) (by decide +kernel)
theorem t_583 : Jvm.Cond.code ({ cls := "QuakeServer$Mover", name := "touchTriggers", desc := "(I)V" } : Jvm.MethodName) prog_5_method_9_code (3 : Nat) (Option.none : Option Jvm.ClassFile.FieldType) ∈ qs_gt := qs_mem 583 (by decide +kernel) (by decide +kernel)
theorem t_584 : Jvm.Cond.methodLink "QuakeServer$Mover" (48 : Nat) ({ cls := "QuakeServer$Mover", name := "think", desc := "(I)V" } : Jvm.MethodName) ∈ qs_gt := qs_mem 584 (by decide +kernel) (by decide +kernel)
theorem t_586 : Jvm.Cond.instanceMethod ({ cls := "QuakeServer$Mover", name := "think", desc := "(I)V" } : Jvm.MethodName) ∈ qs_gt := qs_mem 586 (by decide +kernel) (by decide +kernel)
theorem t_587 : Jvm.Cond.code ({ cls := "QuakeServer$Mover", name := "think", desc := "(I)V" } : Jvm.MethodName) prog_5_method_10_code (3 : Nat) (Option.none : Option Jvm.ClassFile.FieldType) ∈ qs_gt := qs_mem 587 (by decide +kernel) (by decide +kernel)
theorem tp_0 : Cond.selects "QuakeServer$LastMessage" ⟨"QuakeServer$LastMessage", "now", "(I)I"⟩ ⟨"QuakeServer$LastMessage", "now", "(I)I"⟩ ∈ qs_gt := qs_memp 0 (by decide +kernel) (by decide +kernel)
theorem tp_2 : Cond.selects "QuakeServer$Machine" ⟨"QuakeServer$Machine", "perform", "(I)I"⟩ ⟨"QuakeServer$Machine", "perform", "(I)I"⟩ ∈ qs_gt := qs_memp 2 (by decide +kernel) (by decide +kernel)
theorem tp_3 : Cond.selects "QuakeServer$Machine" ⟨"QuakeServer$Machine", "leaveEndedFunctions", "()V"⟩ ⟨"QuakeServer$Machine", "leaveEndedFunctions", "()V"⟩ ∈ qs_gt := qs_memp 3 (by decide +kernel) (by decide +kernel)
theorem tp_4 : Cond.selects "QuakeServer$Machine" ⟨"QuakeServer$Machine", "step", "()V"⟩ ⟨"QuakeServer$Machine", "step", "()V"⟩ ∈ qs_gt := qs_memp 4 (by decide +kernel) (by decide +kernel)
theorem tp_5 : Cond.selects "QuakeServer$Machine" ⟨"QuakeServer$Machine", "enter", "(I)V"⟩ ⟨"QuakeServer$Machine", "enter", "(I)V"⟩ ∈ qs_gt := qs_memp 5 (by decide +kernel) (by decide +kernel)
theorem tp_6 : Cond.selects "QuakeServer$Machine" ⟨"QuakeServer$Machine", "result", "(III)I"⟩ ⟨"QuakeServer$Machine", "result", "(III)I"⟩ ∈ qs_gt := qs_memp 6 (by decide +kernel) (by decide +kernel)
theorem tp_7 : Cond.selects "QuakeServer$Machine" ⟨"QuakeServer$Machine", "draw", "()I"⟩ ⟨"QuakeServer$Machine", "draw", "()I"⟩ ∈ qs_gt := qs_memp 7 (by decide +kernel) (by decide +kernel)
theorem tp_8 : Cond.selects "QuakeServer$Mover" ⟨"QuakeServer$Mover", "travel", "(II)V"⟩ ⟨"QuakeServer$Mover", "travel", "(II)V"⟩ ∈ qs_gt := qs_memp 8 (by decide +kernel) (by decide +kernel)
theorem tp_9 : Cond.selects "QuakeServer$Mover" ⟨"QuakeServer$Mover", "go", "(II)I"⟩ ⟨"QuakeServer$Mover", "go", "(II)I"⟩ ∈ qs_gt := qs_memp 9 (by decide +kernel) (by decide +kernel)
theorem tp_10 : Cond.selects "QuakeServer$Mover" ⟨"QuakeServer$Mover", "meetWalls", "(IIZ)V"⟩ ⟨"QuakeServer$Mover", "meetWalls", "(IIZ)V"⟩ ∈ qs_gt := qs_memp 10 (by decide +kernel) (by decide +kernel)
theorem tp_11 : Cond.selects "QuakeServer$Entities" ⟨"QuakeServer$Entities", "sizeUsed", "(I)I"⟩ ⟨"QuakeServer$Entities", "sizeUsed", "(I)I"⟩ ∈ qs_gt := qs_memp 11 (by decide +kernel) (by decide +kernel)
theorem tp_12 : Cond.selects "QuakeServer$Mover" ⟨"QuakeServer$Mover", "meet", "(II)V"⟩ ⟨"QuakeServer$Mover", "meet", "(II)V"⟩ ∈ qs_gt := qs_memp 12 (by decide +kernel) (by decide +kernel)
theorem tp_13 : Cond.selects "QuakeServer$Mover" ⟨"QuakeServer$Mover", "meetEntities", "(IIZ)V"⟩ ⟨"QuakeServer$Mover", "meetEntities", "(IIZ)V"⟩ ∈ qs_gt := qs_memp 13 (by decide +kernel) (by decide +kernel)
theorem tp_14 : Cond.selects "QuakeServer$Mover" ⟨"QuakeServer$Mover", "mayBlock", "(II)Z"⟩ ⟨"QuakeServer$Mover", "mayBlock", "(II)Z"⟩ ∈ qs_gt := qs_memp 14 (by decide +kernel) (by decide +kernel)
theorem tp_15 : Cond.selects "QuakeServer$Mover" ⟨"QuakeServer$Mover", "touchTriggers", "(I)V"⟩ ⟨"QuakeServer$Mover", "touchTriggers", "(I)V"⟩ ∈ qs_gt := qs_memp 15 (by decide +kernel) (by decide +kernel)
theorem tp_16 : Cond.selects "QuakeServer$Mover" ⟨"QuakeServer$Mover", "think", "(I)V"⟩ ⟨"QuakeServer$Mover", "think", "(I)V"⟩ ∈ qs_gt := qs_memp 16 (by decide +kernel) (by decide +kernel)
theorem in_E : ∀ w ∈ u_ws R_E T_E 2, w ∈ qs_gt := List.forall_mem_cons.mpr ⟨t_32, List.forall_mem_cons.mpr ⟨t_34, fun _ h => absurd h List.not_mem_nil⟩⟩
theorem in_W : ∀ w ∈ u_ws R_W T_W 3, w ∈ qs_gt := List.forall_mem_cons.mpr ⟨t_50, List.forall_mem_cons.mpr ⟨t_52, List.forall_mem_cons.mpr ⟨t_54, fun _ h => absurd h List.not_mem_nil⟩⟩⟩
theorem in_P : ∀ w ∈ u_ws R_P T_P 2, w ∈ qs_gt := List.forall_mem_cons.mpr ⟨t_66, List.forall_mem_cons.mpr ⟨t_68, fun _ h => absurd h List.not_mem_nil⟩⟩
theorem in_M : ∀ w ∈ u_ws R_M T_M 11, w ∈ qs_gt := List.forall_mem_cons.mpr ⟨t_94, List.forall_mem_cons.mpr ⟨t_96, List.forall_mem_cons.mpr ⟨t_98, List.forall_mem_cons.mpr ⟨t_100, List.forall_mem_cons.mpr ⟨t_102, List.forall_mem_cons.mpr ⟨t_104, List.forall_mem_cons.mpr ⟨t_106, List.forall_mem_cons.mpr ⟨t_108, List.forall_mem_cons.mpr ⟨t_110, List.forall_mem_cons.mpr ⟨t_112, List.forall_mem_cons.mpr ⟨t_114, fun _ h => absurd h List.not_mem_nil⟩⟩⟩⟩⟩⟩⟩⟩⟩⟩⟩
theorem in_V : ∀ w ∈ u_ws R_V T_V 6, w ∈ qs_gt := List.forall_mem_cons.mpr ⟨t_130, List.forall_mem_cons.mpr ⟨t_132, List.forall_mem_cons.mpr ⟨t_134, List.forall_mem_cons.mpr ⟨t_136, List.forall_mem_cons.mpr ⟨t_138, List.forall_mem_cons.mpr ⟨t_140, fun _ h => absurd h List.not_mem_nil⟩⟩⟩⟩⟩⟩
theorem in_L : ∀ w ∈ u_ws R_L T_L 2, w ∈ qs_gt := List.forall_mem_cons.mpr ⟨t_151, List.forall_mem_cons.mpr ⟨t_153, fun _ h => absurd h List.not_mem_nil⟩⟩
theorem in_Q : ∀ w ∈ u_ws R_Q T_Q 6, w ∈ qs_gt := List.forall_mem_cons.mpr ⟨t_162, List.forall_mem_cons.mpr ⟨t_164, List.forall_mem_cons.mpr ⟨t_166, List.forall_mem_cons.mpr ⟨t_168, List.forall_mem_cons.mpr ⟨t_170, List.forall_mem_cons.mpr ⟨t_172, fun _ h => absurd h List.not_mem_nil⟩⟩⟩⟩⟩⟩
end
section
theorem d_Q_isBelow_0 : decode b_Q_isBelow 0 = .ok (.iload_n 0, 1) := by decide +kernel
theorem d_Q_isBelow_1 : decode b_Q_isBelow 1 = .ok (.ifCond .lt 12, 3) := by decide +kernel
theorem d_Q_isBelow_4 : decode b_Q_isBelow 4 = .ok (.iload_n 0, 1) := by decide +kernel
theorem d_Q_isBelow_5 : decode b_Q_isBelow 5 = .ok (.iload_n 1, 1) := by decide +kernel
theorem d_Q_isBelow_6 : decode b_Q_isBelow 6 = .ok (.if_icmp .ge 7, 3) := by decide +kernel
theorem d_Q_isBelow_9 : decode b_Q_isBelow 9 = .ok (.iconst 1, 1) := by decide +kernel
theorem d_Q_isBelow_10 : decode b_Q_isBelow 10 = .ok (.goto 4, 3) := by decide +kernel
theorem d_Q_isBelow_13 : decode b_Q_isBelow 13 = .ok (.iconst 0, 1) := by decide +kernel
theorem d_Q_isBelow_14 : decode b_Q_isBelow 14 = .ok (.ireturn, 1) := by decide +kernel
def f_Q_isBelow (a1 : Int32) (a2 : Int32) : Option Int32 := (if a1 < 0 then (some (0)) else (if a2 ≤ a1 then (some (0)) else (some (1))))
set_option maxHeartbeats 4000000 in
set_option maxRecDepth 100000 in
theorem c_Q_isBelow (l : Launch) (sz : Nat) (a1 : Int32) (a2 : Int32) (r0 : Int32) (hF : f_Q_isBelow a1 a2 = some r0) : Met l y_Q_isBelow (qs_ws y_Q_isBelow b_Q_isBelow 2 (some .boolean)) ({ frames := 0, cells := 0, slots := 0, locals := 0 } : Room) (va_Pc ([.int a1, .int a2] : List Value) (fun U => U.heap.size = sz ∧ qs_N U)) (va_Qi (fun (r : Int32) (_ : Unit) => r = r0) (fun _ _ => True) (va_A [] sz)) 0 0 (va_A [] sz) := by
  refine Met.ofW (cc := b_Q_isBelow) (maxL := 2) (ret := (some .boolean)) (by decide) rfl ?_
  intro p e s m args below meth cd s₁ B hml hv
  obtain ⟨rfl, hsz, hNs⟩ := hv
  have hx := B.exec
  have hb := B.bytes
  have hr := B.returns
  have hts := atoms_spec (ws := (qs_ws y_Q_isBelow b_Q_isBelow 2 (some .boolean))) B.pre
  have hg : ∀ w ∈ qs_gt, w.before _ s = true := fun w h => hts w (List.mem_cons_of_mem _ h)
  have hown : s.vm.findClass R_Q = some m.cls := findClass_of_methodNamed B.named
  have hlocks := B.notSynchronized
  subst hsz
  have hD : va_D (va_A [] s.heap.size) [] := qs_D0
  have hP : va_P qs_G0 [] [] s.heap := qs_P0
  generalize hAe : va_A ([]) s.heap.size = A at hD ⊢
  have hA : ∀ q : Nat, s.heap.size ≤ q → A q := fun q h => by rw [← hAe]; exact Or.inr h
  have hS : va_S A s.heap s.heap [] := va_S.rf
  have hl := lv_entry ([.int a1, .int a2] : List Value) (n := 2) (Nat.le_of_ble_eq_true rfl)
  rw [lg_entry_eq]
  generalize (lg_sl ([.int a1, .int a2] : List Value) ++ List.replicate (2 - (lg_sl ([.int a1, .int a2] : List Value)).length) Slot.unset).toArray = ls at hl ⊢
  have hl : lv_has ls 2 [(0, .int (a1)), (1, .int (a2))] := hl
  unfold f_Q_isBelow at hF
  obtain ⟨H, hHe⟩ : ∃ H, H = s.heap := ⟨_, rfl⟩
  obtain ⟨locs, hLe⟩ : ∃ L : List Loc, L = [] := ⟨_, rfl⟩
  rw [← hHe] at hP ⊢
  rw [← hLe]
  have hS : va_S A s.heap H locs := by rw [hHe, hLe]; exact hS
  refine lv_iload_n hx hb d_Q_isBelow_0 rfl (lv_at hl 0 rfl) ?_
  refine lv_if_lt (tgt := 13) hx hb d_Q_isBelow_1 (by decide) (fun c1 => ?_) (fun c1 => ?_)
  · have hF := qs_pos c1 hF
    refine lv_iconst (v := 0) hx hb d_Q_isBelow_13 (by decide) ?_
    have h9 := Option.some.inj hF
    exact W.zret (ty := .boolean) (v := 0) hx hb hr rfl (fun t ht hW => ⟨⟨0, (), rfl, h9, trivial⟩, hS.F ht⟩) hS.2.2 d_Q_isBelow_14
  · have hF := qs_neg c1 hF
    refine lv_iload_n hx hb d_Q_isBelow_4 rfl (lv_at hl 0 rfl) ?_
    refine lv_iload_n hx hb d_Q_isBelow_5 rfl (lv_at hl 1 rfl) ?_
    refine lv_icmp_ge (tgt := 13) hx hb d_Q_isBelow_6 (by decide) (fun c2 => ?_) (fun c2 => ?_)
    · have hF := qs_pos c2 hF
      refine lv_iconst (v := 0) hx hb d_Q_isBelow_13 (by decide) ?_
      have h9 := Option.some.inj hF
      exact W.zret (ty := .boolean) (v := 0) hx hb hr rfl (fun t ht hW => ⟨⟨0, (), rfl, h9, trivial⟩, hS.F ht⟩) hS.2.2 d_Q_isBelow_14
    · have hF := qs_neg c2 hF
      refine lv_iconst (v := 1) hx hb d_Q_isBelow_9 (by decide) ?_
      refine lv_goto (tgt := 14) hx hb d_Q_isBelow_10 (by decide) ?_
      have h9 := Option.some.inj hF
      exact W.zret (ty := .boolean) (v := 1) hx hb hr rfl (fun t ht hW => ⟨⟨1, (), rfl, h9, trivial⟩, hS.F ht⟩) hS.2.2 d_Q_isBelow_14

theorem d_Q_isEntityOrWorld_0 : decode b_Q_isEntityOrWorld 0 = .ok (.iload_n 0, 1) := by decide +kernel
theorem d_Q_isEntityOrWorld_1 : decode b_Q_isEntityOrWorld 1 = .ok (.iconst (-1), 1) := by decide +kernel
theorem d_Q_isEntityOrWorld_2 : decode b_Q_isEntityOrWorld 2 = .ok (.if_icmp .eq 12, 3) := by decide +kernel
theorem d_Q_isEntityOrWorld_5 : decode b_Q_isEntityOrWorld 5 = .ok (.iload_n 0, 1) := by decide +kernel
theorem d_Q_isEntityOrWorld_6 : decode b_Q_isEntityOrWorld 6 = .ok (.bipush 12, 2) := by decide +kernel
theorem d_Q_isEntityOrWorld_8 : decode b_Q_isEntityOrWorld 8 = .ok (.invokestatic 83, 3) := by decide +kernel
theorem d_Q_isEntityOrWorld_11 : decode b_Q_isEntityOrWorld 11 = .ok (.ifCond .eq 7, 3) := by decide +kernel
theorem d_Q_isEntityOrWorld_14 : decode b_Q_isEntityOrWorld 14 = .ok (.iconst 1, 1) := by decide +kernel
theorem d_Q_isEntityOrWorld_15 : decode b_Q_isEntityOrWorld 15 = .ok (.goto 4, 3) := by decide +kernel
theorem d_Q_isEntityOrWorld_18 : decode b_Q_isEntityOrWorld 18 = .ok (.iconst 0, 1) := by decide +kernel
theorem d_Q_isEntityOrWorld_19 : decode b_Q_isEntityOrWorld 19 = .ok (.ireturn, 1) := by decide +kernel
def f_Q_isEntityOrWorld (a1 : Int32) : Option Int32 := (if a1 = (-1) then (some (1)) else (qs_pb (f_Q_isBelow (a1) (12)) fun r2 => (if r2 = 0 then (some (0)) else (some (1)))))
set_option maxHeartbeats 4000000 in
set_option maxRecDepth 100000 in
theorem c_Q_isEntityOrWorld (l : Launch) (sz : Nat) (a1 : Int32) (r0 : Int32) (hF : f_Q_isEntityOrWorld a1 = some r0) : Met l y_Q_isEntityOrWorld (qs_ws y_Q_isEntityOrWorld b_Q_isEntityOrWorld 1 (some .boolean)) ({ frames := 1, cells := 0, slots := 0, locals := 21 } : Room) (va_Pc ([.int a1] : List Value) (fun U => U.heap.size = sz ∧ qs_N U)) (va_Qi (fun (r : Int32) (_ : Unit) => r = r0) (fun _ _ => True) (va_A [] sz)) 0 0 (va_A [] sz) := by
  refine Met.ofW (cc := b_Q_isEntityOrWorld) (maxL := 1) (ret := (some .boolean)) (by decide) rfl ?_
  intro p e s m args below meth cd s₁ B hml hv
  obtain ⟨rfl, hsz, hNs⟩ := hv
  have hx := B.exec
  have hb := B.bytes
  have hr := B.returns
  have hts := atoms_spec (ws := (qs_ws y_Q_isEntityOrWorld b_Q_isEntityOrWorld 1 (some .boolean))) B.pre
  have hg : ∀ w ∈ qs_gt, w.before _ s = true := fun w h => hts w (List.mem_cons_of_mem _ h)
  have hown : s.vm.findClass R_Q = some m.cls := findClass_of_methodNamed B.named
  have hlocks := B.notSynchronized
  subst hsz
  have hD : va_D (va_A [] s.heap.size) [] := qs_D0
  have hP : va_P qs_G0 [] [] s.heap := qs_P0
  generalize hAe : va_A ([]) s.heap.size = A at hD ⊢
  have hA : ∀ q : Nat, s.heap.size ≤ q → A q := fun q h => by rw [← hAe]; exact Or.inr h
  have hS : va_S A s.heap s.heap [] := va_S.rf
  have hl := lv_entry ([.int a1] : List Value) (n := 1) (Nat.le_of_ble_eq_true rfl)
  rw [lg_entry_eq]
  generalize (lg_sl ([.int a1] : List Value) ++ List.replicate (1 - (lg_sl ([.int a1] : List Value)).length) Slot.unset).toArray = ls at hl ⊢
  have hl : lv_has ls 1 [(0, .int (a1))] := hl
  unfold f_Q_isEntityOrWorld at hF
  obtain ⟨H, hHe⟩ : ∃ H, H = s.heap := ⟨_, rfl⟩
  obtain ⟨locs, hLe⟩ : ∃ L : List Loc, L = [] := ⟨_, rfl⟩
  rw [← hHe] at hP ⊢
  rw [← hLe]
  have hS : va_S A s.heap H locs := by rw [hHe, hLe]; exact hS
  refine lv_iload_n hx hb d_Q_isEntityOrWorld_0 rfl (lv_at hl 0 rfl) ?_
  refine lv_iconst (v := (-1)) hx hb d_Q_isEntityOrWorld_1 (by decide) ?_
  refine lv_icmp_eq (tgt := 14) hx hb d_Q_isEntityOrWorld_2 (by decide) (fun c1 => ?_) (fun c1 => ?_)
  · have hF := qs_pos c1 hF
    refine lv_iconst (v := 1) hx hb d_Q_isEntityOrWorld_14 (by decide) ?_
    refine lv_goto (tgt := 19) hx hb d_Q_isEntityOrWorld_15 (by decide) ?_
    have h9 := Option.some.inj hF
    exact W.zret (ty := .boolean) (v := 1) hx hb hr rfl (fun t ht hW => ⟨⟨1, (), rfl, h9, trivial⟩, hS.F ht⟩) hS.2.2 d_Q_isEntityOrWorld_19
  · have hF := qs_neg c1 hF
    refine lv_iload_n hx hb d_Q_isEntityOrWorld_5 rfl (lv_at hl 0 rfl) ?_
    refine lv_bipush (v := 12) hx hb d_Q_isEntityOrWorld_6 (by decide) ?_
    obtain ⟨r2, hX, hF⟩ := qs_pb_some hF
    refine qs_psi (va_runS (own := "QuakeServer") (As := [.int (a1), .int (12)]) (rest := []) ⟨hx, hb, hml, hown, hg⟩ (c_Q_isBelow l H.size (a1) (12) r2 hX) (cwS 2 hg (qs_gS t_311 t_312 t_1 t_313) rfl rfl rfl (by decide +kernel) ⟨Nat.le_of_ble_eq_true rfl, Nat.le_of_ble_eq_true rfl⟩) ⟨qs_blind0, fun U hU hW => ⟨rfl, by rw [hU], hNs.warm hW⟩⟩ rfl rfl hl.1 rfl (lv_room (Nat.le_of_ble_eq_true rfl)) d_Q_isEntityOrWorld_8 ⟨Nat.le_of_ble_eq_true rfl, Nat.le_of_ble_eq_true rfl⟩) hP hD hS hA (fun H locs hP hS => ?_)
    refine lv_if_eq (tgt := 18) hx hb d_Q_isEntityOrWorld_11 (by decide) (fun c3 => ?_) (fun c3 => ?_)
    · have hF := qs_pos c3 hF
      refine lv_iconst (v := 0) hx hb d_Q_isEntityOrWorld_18 (by decide) ?_
      have h9 := Option.some.inj hF
      exact W.zret (ty := .boolean) (v := 0) hx hb hr rfl (fun t ht hW => ⟨⟨0, (), rfl, h9, trivial⟩, hS.F ht⟩) hS.2.2 d_Q_isEntityOrWorld_19
    · have hF := qs_neg c3 hF
      refine lv_iconst (v := 1) hx hb d_Q_isEntityOrWorld_14 (by decide) ?_
      refine lv_goto (tgt := 19) hx hb d_Q_isEntityOrWorld_15 (by decide) ?_
      have h9 := Option.some.inj hF
      exact W.zret (ty := .boolean) (v := 1) hx hb hr rfl (fun t ht hW => ⟨⟨1, (), rfl, h9, trivial⟩, hS.F ht⟩) hS.2.2 d_Q_isEntityOrWorld_19

theorem d_Q_isInWorld_0 : decode b_Q_isInWorld 0 = .ok (.iload_n 0, 1) := by decide +kernel
theorem d_Q_isInWorld_1 : decode b_Q_isInWorld 1 = .ok (.sipush (-1024), 3) := by decide +kernel
theorem d_Q_isInWorld_4 : decode b_Q_isInWorld 4 = .ok (.if_icmp .lt 14, 3) := by decide +kernel
theorem d_Q_isInWorld_7 : decode b_Q_isInWorld 7 = .ok (.iload_n 0, 1) := by decide +kernel
theorem d_Q_isInWorld_8 : decode b_Q_isInWorld 8 = .ok (.sipush 1024, 3) := by decide +kernel
theorem d_Q_isInWorld_11 : decode b_Q_isInWorld 11 = .ok (.if_icmp .gt 7, 3) := by decide +kernel
theorem d_Q_isInWorld_14 : decode b_Q_isInWorld 14 = .ok (.iconst 1, 1) := by decide +kernel
theorem d_Q_isInWorld_15 : decode b_Q_isInWorld 15 = .ok (.goto 4, 3) := by decide +kernel
theorem d_Q_isInWorld_18 : decode b_Q_isInWorld 18 = .ok (.iconst 0, 1) := by decide +kernel
theorem d_Q_isInWorld_19 : decode b_Q_isInWorld 19 = .ok (.ireturn, 1) := by decide +kernel
def f_Q_isInWorld (a1 : Int32) : Option Int32 := (if a1 < (-1024) then (some (0)) else (if 1024 < a1 then (some (0)) else (some (1))))
set_option maxHeartbeats 4000000 in
set_option maxRecDepth 100000 in
theorem c_Q_isInWorld (l : Launch) (sz : Nat) (a1 : Int32) (r0 : Int32) (hF : f_Q_isInWorld a1 = some r0) : Met l y_Q_isInWorld (qs_ws y_Q_isInWorld b_Q_isInWorld 1 (some .boolean)) ({ frames := 0, cells := 0, slots := 0, locals := 0 } : Room) (va_Pc ([.int a1] : List Value) (fun U => U.heap.size = sz ∧ qs_N U)) (va_Qi (fun (r : Int32) (_ : Unit) => r = r0) (fun _ _ => True) (va_A [] sz)) 0 0 (va_A [] sz) := by
  refine Met.ofW (cc := b_Q_isInWorld) (maxL := 1) (ret := (some .boolean)) (by decide) rfl ?_
  intro p e s m args below meth cd s₁ B hml hv
  obtain ⟨rfl, hsz, hNs⟩ := hv
  have hx := B.exec
  have hb := B.bytes
  have hr := B.returns
  have hts := atoms_spec (ws := (qs_ws y_Q_isInWorld b_Q_isInWorld 1 (some .boolean))) B.pre
  have hg : ∀ w ∈ qs_gt, w.before _ s = true := fun w h => hts w (List.mem_cons_of_mem _ h)
  have hown : s.vm.findClass R_Q = some m.cls := findClass_of_methodNamed B.named
  have hlocks := B.notSynchronized
  subst hsz
  have hD : va_D (va_A [] s.heap.size) [] := qs_D0
  have hP : va_P qs_G0 [] [] s.heap := qs_P0
  generalize hAe : va_A ([]) s.heap.size = A at hD ⊢
  have hA : ∀ q : Nat, s.heap.size ≤ q → A q := fun q h => by rw [← hAe]; exact Or.inr h
  have hS : va_S A s.heap s.heap [] := va_S.rf
  have hl := lv_entry ([.int a1] : List Value) (n := 1) (Nat.le_of_ble_eq_true rfl)
  rw [lg_entry_eq]
  generalize (lg_sl ([.int a1] : List Value) ++ List.replicate (1 - (lg_sl ([.int a1] : List Value)).length) Slot.unset).toArray = ls at hl ⊢
  have hl : lv_has ls 1 [(0, .int (a1))] := hl
  unfold f_Q_isInWorld at hF
  obtain ⟨H, hHe⟩ : ∃ H, H = s.heap := ⟨_, rfl⟩
  obtain ⟨locs, hLe⟩ : ∃ L : List Loc, L = [] := ⟨_, rfl⟩
  rw [← hHe] at hP ⊢
  rw [← hLe]
  have hS : va_S A s.heap H locs := by rw [hHe, hLe]; exact hS
  refine lv_iload_n hx hb d_Q_isInWorld_0 rfl (lv_at hl 0 rfl) ?_
  refine lv_sipush (v := (-1024)) hx hb d_Q_isInWorld_1 (by decide) ?_
  refine lv_icmp_lt (tgt := 18) hx hb d_Q_isInWorld_4 (by decide) (fun c1 => ?_) (fun c1 => ?_)
  · have hF := qs_pos c1 hF
    refine lv_iconst (v := 0) hx hb d_Q_isInWorld_18 (by decide) ?_
    have h9 := Option.some.inj hF
    exact W.zret (ty := .boolean) (v := 0) hx hb hr rfl (fun t ht hW => ⟨⟨0, (), rfl, h9, trivial⟩, hS.F ht⟩) hS.2.2 d_Q_isInWorld_19
  · have hF := qs_neg c1 hF
    refine lv_iload_n hx hb d_Q_isInWorld_7 rfl (lv_at hl 0 rfl) ?_
    refine lv_sipush (v := 1024) hx hb d_Q_isInWorld_8 (by decide) ?_
    refine lv_icmp_gt (tgt := 18) hx hb d_Q_isInWorld_11 (by decide) (fun c2 => ?_) (fun c2 => ?_)
    · have hF := qs_pos c2 hF
      refine lv_iconst (v := 0) hx hb d_Q_isInWorld_18 (by decide) ?_
      have h9 := Option.some.inj hF
      exact W.zret (ty := .boolean) (v := 0) hx hb hr rfl (fun t ht hW => ⟨⟨0, (), rfl, h9, trivial⟩, hS.F ht⟩) hS.2.2 d_Q_isInWorld_19
    · have hF := qs_neg c2 hF
      refine lv_iconst (v := 1) hx hb d_Q_isInWorld_14 (by decide) ?_
      refine lv_goto (tgt := 19) hx hb d_Q_isInWorld_15 (by decide) ?_
      have h9 := Option.some.inj hF
      exact W.zret (ty := .boolean) (v := 1) hx hb hr rfl (fun t ht hW => ⟨⟨1, (), rfl, h9, trivial⟩, hS.F ht⟩) hS.2.2 d_Q_isInWorld_19

theorem d_Q_isNumber_0 : decode b_Q_isNumber 0 = .ok (.dload_n 0, 1) := by decide +kernel
theorem d_Q_isNumber_1 : decode b_Q_isNumber 1 = .ok (.ldc2_w 203, 3) := by decide +kernel
theorem d_Q_isNumber_4 : decode b_Q_isNumber 4 = .ok (.dcmp .l, 1) := by decide +kernel
theorem d_Q_isNumber_5 : decode b_Q_isNumber 5 = .ok (.ifCond .lt 15, 3) := by decide +kernel
theorem d_Q_isNumber_8 : decode b_Q_isNumber 8 = .ok (.dload_n 0, 1) := by decide +kernel
theorem d_Q_isNumber_9 : decode b_Q_isNumber 9 = .ok (.ldc2_w 205, 3) := by decide +kernel
theorem d_Q_isNumber_12 : decode b_Q_isNumber 12 = .ok (.dcmp .g, 1) := by decide +kernel
theorem d_Q_isNumber_13 : decode b_Q_isNumber 13 = .ok (.ifCond .gt 7, 3) := by decide +kernel
theorem d_Q_isNumber_16 : decode b_Q_isNumber 16 = .ok (.iconst 1, 1) := by decide +kernel
theorem d_Q_isNumber_17 : decode b_Q_isNumber 17 = .ok (.goto 4, 3) := by decide +kernel
theorem d_Q_isNumber_20 : decode b_Q_isNumber 20 = .ok (.iconst 0, 1) := by decide +kernel
theorem d_Q_isNumber_21 : decode b_Q_isNumber 21 = .ok (.ireturn, 1) := by decide +kernel
def f_Q_isNumber (a1 : UInt64) : Option Int32 := (if (Op.cmpValue (FP.dcmp a1 (13893604850437980160 : UInt64)) .l) < 0 then (some (0)) else (if 0 < (Op.cmpValue (FP.dcmp a1 (4670232813583204352 : UInt64)) .g) then (some (0)) else (some (1))))
set_option maxHeartbeats 4000000 in
set_option maxRecDepth 100000 in
theorem c_Q_isNumber (l : Launch) (sz : Nat) (a1 : UInt64) (r0 : Int32) (hF : f_Q_isNumber a1 = some r0) : Met l y_Q_isNumber (qs_ws y_Q_isNumber b_Q_isNumber 2 (some .boolean)) ({ frames := 0, cells := 0, slots := 0, locals := 0 } : Room) (va_Pc ([.double a1] : List Value) (fun U => U.heap.size = sz ∧ qs_N U)) (va_Qi (fun (r : Int32) (_ : Unit) => r = r0) (fun _ _ => True) (va_A [] sz)) 0 0 (va_A [] sz) := by
  refine Met.ofW (cc := b_Q_isNumber) (maxL := 2) (ret := (some .boolean)) (by decide) rfl ?_
  intro p e s m args below meth cd s₁ B hml hv
  obtain ⟨rfl, hsz, hNs⟩ := hv
  have hx := B.exec
  have hb := B.bytes
  have hr := B.returns
  have hts := atoms_spec (ws := (qs_ws y_Q_isNumber b_Q_isNumber 2 (some .boolean))) B.pre
  have hg : ∀ w ∈ qs_gt, w.before _ s = true := fun w h => hts w (List.mem_cons_of_mem _ h)
  have hown : s.vm.findClass R_Q = some m.cls := findClass_of_methodNamed B.named
  have hlocks := B.notSynchronized
  subst hsz
  have hD : va_D (va_A [] s.heap.size) [] := qs_D0
  have hP : va_P qs_G0 [] [] s.heap := qs_P0
  generalize hAe : va_A ([]) s.heap.size = A at hD ⊢
  have hA : ∀ q : Nat, s.heap.size ≤ q → A q := fun q h => by rw [← hAe]; exact Or.inr h
  have hS : va_S A s.heap s.heap [] := va_S.rf
  have hl := lv_entry ([.double a1] : List Value) (n := 2) (Nat.le_of_ble_eq_true rfl)
  rw [lg_entry_eq]
  generalize (lg_sl ([.double a1] : List Value) ++ List.replicate (2 - (lg_sl ([.double a1] : List Value)).length) Slot.unset).toArray = ls at hl ⊢
  have hl : lv_has ls 2 [(0, .double (a1))] := hl
  unfold f_Q_isNumber at hF
  obtain ⟨H, hHe⟩ : ∃ H, H = s.heap := ⟨_, rfl⟩
  obtain ⟨locs, hLe⟩ : ∃ L : List Loc, L = [] := ⟨_, rfl⟩
  rw [← hHe] at hP ⊢
  rw [← hLe]
  have hS : va_S A s.heap H locs := by rw [hHe, hLe]; exact hS
  refine lv_dload_n hx hb d_Q_isNumber_0 rfl (lv_at hl 0 rfl) ?_
  refine lv_ldc2d (v := 13893604850437980160) hx hb hown (hg _ t_342) d_Q_isNumber_1 ?_
  refine lv_dcmp hx hb d_Q_isNumber_4 ?_
  refine lv_if_lt (tgt := 20) hx hb d_Q_isNumber_5 (by decide) (fun c1 => ?_) (fun c1 => ?_)
  · have hF := qs_pos c1 hF
    refine lv_iconst (v := 0) hx hb d_Q_isNumber_20 (by decide) ?_
    have h9 := Option.some.inj hF
    exact W.zret (ty := .boolean) (v := 0) hx hb hr rfl (fun t ht hW => ⟨⟨0, (), rfl, h9, trivial⟩, hS.F ht⟩) hS.2.2 d_Q_isNumber_21
  · have hF := qs_neg c1 hF
    refine lv_dload_n hx hb d_Q_isNumber_8 rfl (lv_at hl 0 rfl) ?_
    refine lv_ldc2d (v := 4670232813583204352) hx hb hown (hg _ t_343) d_Q_isNumber_9 ?_
    refine lv_dcmp hx hb d_Q_isNumber_12 ?_
    refine lv_if_gt (tgt := 20) hx hb d_Q_isNumber_13 (by decide) (fun c2 => ?_) (fun c2 => ?_)
    · have hF := qs_pos c2 hF
      refine lv_iconst (v := 0) hx hb d_Q_isNumber_20 (by decide) ?_
      have h9 := Option.some.inj hF
      exact W.zret (ty := .boolean) (v := 0) hx hb hr rfl (fun t ht hW => ⟨⟨0, (), rfl, h9, trivial⟩, hS.F ht⟩) hS.2.2 d_Q_isNumber_21
    · have hF := qs_neg c2 hF
      refine lv_iconst (v := 1) hx hb d_Q_isNumber_16 (by decide) ?_
      refine lv_goto (tgt := 21) hx hb d_Q_isNumber_17 (by decide) ?_
      have h9 := Option.some.inj hF
      exact W.zret (ty := .boolean) (v := 1) hx hb hr rfl (fun t ht hW => ⟨⟨1, (), rfl, h9, trivial⟩, hS.F ht⟩) hS.2.2 d_Q_isNumber_21

theorem d_Q_eighthsOf_0 : decode b_Q_eighthsOf 0 = .ok (.dload_n 0, 1) := by decide +kernel
theorem d_Q_eighthsOf_1 : decode b_Q_eighthsOf 1 = .ok (.ldc2_w 207, 3) := by decide +kernel
theorem d_Q_eighthsOf_4 : decode b_Q_eighthsOf 4 = .ok (.dmul, 1) := by decide +kernel
theorem d_Q_eighthsOf_5 : decode b_Q_eighthsOf 5 = .ok (.d2i, 1) := by decide +kernel
theorem d_Q_eighthsOf_6 : decode b_Q_eighthsOf 6 = .ok (.istore_n 2, 1) := by decide +kernel
theorem d_Q_eighthsOf_7 : decode b_Q_eighthsOf 7 = .ok (.iload_n 2, 1) := by decide +kernel
theorem d_Q_eighthsOf_8 : decode b_Q_eighthsOf 8 = .ok (.i2d, 1) := by decide +kernel
theorem d_Q_eighthsOf_9 : decode b_Q_eighthsOf 9 = .ok (.dload_n 0, 1) := by decide +kernel
theorem d_Q_eighthsOf_10 : decode b_Q_eighthsOf 10 = .ok (.ldc2_w 207, 3) := by decide +kernel
theorem d_Q_eighthsOf_13 : decode b_Q_eighthsOf 13 = .ok (.dmul, 1) := by decide +kernel
theorem d_Q_eighthsOf_14 : decode b_Q_eighthsOf 14 = .ok (.dcmp .l, 1) := by decide +kernel
theorem d_Q_eighthsOf_15 : decode b_Q_eighthsOf 15 = .ok (.ifCond .le 9, 3) := by decide +kernel
theorem d_Q_eighthsOf_18 : decode b_Q_eighthsOf 18 = .ok (.iload_n 2, 1) := by decide +kernel
theorem d_Q_eighthsOf_19 : decode b_Q_eighthsOf 19 = .ok (.iconst 1, 1) := by decide +kernel
theorem d_Q_eighthsOf_20 : decode b_Q_eighthsOf 20 = .ok (.isub, 1) := by decide +kernel
theorem d_Q_eighthsOf_21 : decode b_Q_eighthsOf 21 = .ok (.goto 4, 3) := by decide +kernel
theorem d_Q_eighthsOf_24 : decode b_Q_eighthsOf 24 = .ok (.iload_n 2, 1) := by decide +kernel
theorem d_Q_eighthsOf_25 : decode b_Q_eighthsOf 25 = .ok (.ireturn, 1) := by decide +kernel
def f_Q_eighthsOf (a1 : UInt64) : Option Int32 := (qs_nan (FP.dmul a1 (4620693217682128896 : UInt64)) (qs_nan (FP.dmul a1 (4620693217682128896 : UInt64)) (if (Op.cmpValue (FP.dcmp (FP.i2d (FP.d2i (FP.dmul a1 (4620693217682128896 : UInt64)))) (FP.dmul a1 (4620693217682128896 : UInt64))) .l) ≤ 0 then (some (FP.d2i (FP.dmul a1 (4620693217682128896 : UInt64)))) else (some ((FP.d2i (FP.dmul a1 (4620693217682128896 : UInt64))) - 1)))))
set_option maxHeartbeats 4000000 in
set_option maxRecDepth 100000 in
theorem c_Q_eighthsOf (l : Launch) (sz : Nat) (a1 : UInt64) (r0 : Int32) (hF : f_Q_eighthsOf a1 = some r0) : Met l y_Q_eighthsOf (qs_ws y_Q_eighthsOf b_Q_eighthsOf 3 (some .int)) ({ frames := 0, cells := 0, slots := 0, locals := 0 } : Room) (va_Pc ([.double a1] : List Value) (fun U => U.heap.size = sz ∧ qs_N U)) (va_Qi (fun (r : Int32) (_ : Unit) => r = r0) (fun _ _ => True) (va_A [] sz)) 0 0 (va_A [] sz) := by
  refine Met.ofW (cc := b_Q_eighthsOf) (maxL := 3) (ret := (some .int)) (by decide) rfl ?_
  intro p e s m args below meth cd s₁ B hml hv
  obtain ⟨rfl, hsz, hNs⟩ := hv
  have hx := B.exec
  have hb := B.bytes
  have hr := B.returns
  have hts := atoms_spec (ws := (qs_ws y_Q_eighthsOf b_Q_eighthsOf 3 (some .int))) B.pre
  have hg : ∀ w ∈ qs_gt, w.before _ s = true := fun w h => hts w (List.mem_cons_of_mem _ h)
  have hown : s.vm.findClass R_Q = some m.cls := findClass_of_methodNamed B.named
  have hlocks := B.notSynchronized
  subst hsz
  have hD : va_D (va_A [] s.heap.size) [] := qs_D0
  have hP : va_P qs_G0 [] [] s.heap := qs_P0
  generalize hAe : va_A ([]) s.heap.size = A at hD ⊢
  have hA : ∀ q : Nat, s.heap.size ≤ q → A q := fun q h => by rw [← hAe]; exact Or.inr h
  have hS : va_S A s.heap s.heap [] := va_S.rf
  have hl := lv_entry ([.double a1] : List Value) (n := 3) (Nat.le_of_ble_eq_true rfl)
  rw [lg_entry_eq]
  generalize (lg_sl ([.double a1] : List Value) ++ List.replicate (3 - (lg_sl ([.double a1] : List Value)).length) Slot.unset).toArray = ls at hl ⊢
  have hl : lv_has ls 3 [(0, .double (a1))] := hl
  unfold f_Q_eighthsOf at hF
  obtain ⟨H, hHe⟩ : ∃ H, H = s.heap := ⟨_, rfl⟩
  obtain ⟨locs, hLe⟩ : ∃ L : List Loc, L = [] := ⟨_, rfl⟩
  rw [← hHe] at hP ⊢
  rw [← hLe]
  have hS : va_S A s.heap H locs := by rw [hHe, hLe]; exact hS
  refine lv_dload_n hx hb d_Q_eighthsOf_0 rfl (lv_at hl 0 rfl) ?_
  refine lv_ldc2d (v := 4620693217682128896) hx hb hown (hg _ t_353) d_Q_eighthsOf_1 ?_
  obtain ⟨c1, hF⟩ := qs_nan_some hF
  refine lv_dmul hx hb d_Q_eighthsOf_4 c1 ?_
  refine lv_d2i hx hb d_Q_eighthsOf_5 ?_
  refine lv_istore_n (lv' := [(2, .int (FP.d2i (FP.dmul a1 (4620693217682128896 : UInt64)))), (0, .double (a1))]) hx hb d_Q_eighthsOf_6 rfl hl (by decide) rfl (fun ls hl => ?_)
  refine lv_iload_n hx hb d_Q_eighthsOf_7 rfl (lv_at hl 0 rfl) ?_
  refine lv_i2d hx hb d_Q_eighthsOf_8 ?_
  refine lv_dload_n hx hb d_Q_eighthsOf_9 rfl (lv_at hl 1 rfl) ?_
  refine lv_ldc2d (v := 4620693217682128896) hx hb hown (hg _ t_353) d_Q_eighthsOf_10 ?_
  obtain ⟨c2, hF⟩ := qs_nan_some hF
  refine lv_dmul hx hb d_Q_eighthsOf_13 c2 ?_
  refine lv_dcmp hx hb d_Q_eighthsOf_14 ?_
  refine lv_if_le (tgt := 24) hx hb d_Q_eighthsOf_15 (by decide) (fun c3 => ?_) (fun c3 => ?_)
  · have hF := qs_pos c3 hF
    refine lv_iload_n hx hb d_Q_eighthsOf_24 rfl (lv_at hl 0 rfl) ?_
    have h9 := Option.some.inj hF
    exact W.iret (v := FP.d2i (FP.dmul a1 (4620693217682128896 : UInt64))) hx hb hr (fun t ht hW => ⟨⟨(FP.d2i (FP.dmul a1 (4620693217682128896 : UInt64))), (), rfl, h9, trivial⟩, hS.F ht⟩) hS.2.2 d_Q_eighthsOf_25
  · have hF := qs_neg c3 hF
    refine lv_iload_n hx hb d_Q_eighthsOf_18 rfl (lv_at hl 0 rfl) ?_
    refine lv_iconst (v := 1) hx hb d_Q_eighthsOf_19 (by decide) ?_
    refine lv_isub hx hb d_Q_eighthsOf_20 ?_
    refine lv_goto (tgt := 25) hx hb d_Q_eighthsOf_21 (by decide) ?_
    have h9 := Option.some.inj hF
    exact W.iret (v := (FP.d2i (FP.dmul a1 (4620693217682128896 : UInt64))) - 1) hx hb hr (fun t ht hW => ⟨⟨((FP.d2i (FP.dmul a1 (4620693217682128896 : UInt64))) - 1), (), rfl, h9, trivial⟩, hS.F ht⟩) hS.2.2 d_Q_eighthsOf_25

theorem d_Q_valueOf_0 : decode b_Q_valueOf 0 = .ok (.iload_n 0, 1) := by decide +kernel
theorem d_Q_valueOf_1 : decode b_Q_valueOf 1 = .ok (.i2d, 1) := by decide +kernel
theorem d_Q_valueOf_2 : decode b_Q_valueOf 2 = .ok (.ldc2_w 207, 3) := by decide +kernel
theorem d_Q_valueOf_5 : decode b_Q_valueOf 5 = .ok (.ddiv, 1) := by decide +kernel
theorem d_Q_valueOf_6 : decode b_Q_valueOf 6 = .ok (.dreturn, 1) := by decide +kernel
def f_Q_valueOf (a1 : Int32) : Option UInt64 := (qs_nan (FP.ddiv (FP.i2d a1) (4620693217682128896 : UInt64)) (some (FP.ddiv (FP.i2d a1) (4620693217682128896 : UInt64))))
set_option maxHeartbeats 4000000 in
set_option maxRecDepth 100000 in
theorem c_Q_valueOf (l : Launch) (sz : Nat) (a1 : Int32) (r0 : UInt64) (hF : f_Q_valueOf a1 = some r0) : Met l y_Q_valueOf (qs_ws y_Q_valueOf b_Q_valueOf 1 (some .double)) ({ frames := 0, cells := 0, slots := 0, locals := 0 } : Room) (va_Pc ([.int a1] : List Value) (fun U => U.heap.size = sz ∧ qs_N U)) (va_Qd (fun (r : UInt64) (_ : Unit) => r = r0) (fun _ _ => True) (va_A [] sz)) 0 0 (va_A [] sz) := by
  refine Met.ofW (cc := b_Q_valueOf) (maxL := 1) (ret := (some .double)) (by decide) rfl ?_
  intro p e s m args below meth cd s₁ B hml hv
  obtain ⟨rfl, hsz, hNs⟩ := hv
  have hx := B.exec
  have hb := B.bytes
  have hr := B.returns
  have hts := atoms_spec (ws := (qs_ws y_Q_valueOf b_Q_valueOf 1 (some .double))) B.pre
  have hg : ∀ w ∈ qs_gt, w.before _ s = true := fun w h => hts w (List.mem_cons_of_mem _ h)
  have hown : s.vm.findClass R_Q = some m.cls := findClass_of_methodNamed B.named
  have hlocks := B.notSynchronized
  subst hsz
  have hD : va_D (va_A [] s.heap.size) [] := qs_D0
  have hP : va_P qs_G0 [] [] s.heap := qs_P0
  generalize hAe : va_A ([]) s.heap.size = A at hD ⊢
  have hA : ∀ q : Nat, s.heap.size ≤ q → A q := fun q h => by rw [← hAe]; exact Or.inr h
  have hS : va_S A s.heap s.heap [] := va_S.rf
  have hl := lv_entry ([.int a1] : List Value) (n := 1) (Nat.le_of_ble_eq_true rfl)
  rw [lg_entry_eq]
  generalize (lg_sl ([.int a1] : List Value) ++ List.replicate (1 - (lg_sl ([.int a1] : List Value)).length) Slot.unset).toArray = ls at hl ⊢
  have hl : lv_has ls 1 [(0, .int (a1))] := hl
  unfold f_Q_valueOf at hF
  obtain ⟨H, hHe⟩ : ∃ H, H = s.heap := ⟨_, rfl⟩
  obtain ⟨locs, hLe⟩ : ∃ L : List Loc, L = [] := ⟨_, rfl⟩
  rw [← hHe] at hP ⊢
  rw [← hLe]
  have hS : va_S A s.heap H locs := by rw [hHe, hLe]; exact hS
  refine lv_iload_n hx hb d_Q_valueOf_0 rfl (lv_at hl 0 rfl) ?_
  refine lv_i2d hx hb d_Q_valueOf_1 ?_
  refine lv_ldc2d (v := 4620693217682128896) hx hb hown (hg _ t_353) d_Q_valueOf_2 ?_
  obtain ⟨c1, hF⟩ := qs_nan_some hF
  refine lv_ddiv hx hb d_Q_valueOf_5 c1 ?_
  have h9 := Option.some.inj hF
  exact W.dret (v := FP.ddiv (FP.i2d a1) (4620693217682128896 : UInt64)) hx hb hr (fun t ht hW => ⟨⟨(FP.ddiv (FP.i2d a1) (4620693217682128896 : UInt64)), (), rfl, h9, trivial⟩, hS.F ht⟩) hS.2.2 d_Q_valueOf_6

theorem d_Q_wholeOf_0 : decode b_Q_wholeOf 0 = .ok (.iload_n 0, 1) := by decide +kernel
theorem d_Q_wholeOf_1 : decode b_Q_wholeOf 1 = .ok (.iconst 3, 1) := by decide +kernel
theorem d_Q_wholeOf_2 : decode b_Q_wholeOf 2 = .ok (.ishr, 1) := by decide +kernel
theorem d_Q_wholeOf_3 : decode b_Q_wholeOf 3 = .ok (.ireturn, 1) := by decide +kernel
def f_Q_wholeOf (a1 : Int32) : Option Int32 := (some (a1 >>> (3 &&& 31)))
set_option maxHeartbeats 4000000 in
set_option maxRecDepth 100000 in
theorem c_Q_wholeOf (l : Launch) (sz : Nat) (a1 : Int32) (r0 : Int32) (hF : f_Q_wholeOf a1 = some r0) : Met l y_Q_wholeOf (qs_ws y_Q_wholeOf b_Q_wholeOf 1 (some .int)) ({ frames := 0, cells := 0, slots := 0, locals := 0 } : Room) (va_Pc ([.int a1] : List Value) (fun U => U.heap.size = sz ∧ qs_N U)) (va_Qi (fun (r : Int32) (_ : Unit) => r = r0) (fun _ _ => True) (va_A [] sz)) 0 0 (va_A [] sz) := by
  refine Met.ofW (cc := b_Q_wholeOf) (maxL := 1) (ret := (some .int)) (by decide) rfl ?_
  intro p e s m args below meth cd s₁ B hml hv
  obtain ⟨rfl, hsz, hNs⟩ := hv
  have hx := B.exec
  have hb := B.bytes
  have hr := B.returns
  have hts := atoms_spec (ws := (qs_ws y_Q_wholeOf b_Q_wholeOf 1 (some .int))) B.pre
  have hg : ∀ w ∈ qs_gt, w.before _ s = true := fun w h => hts w (List.mem_cons_of_mem _ h)
  have hown : s.vm.findClass R_Q = some m.cls := findClass_of_methodNamed B.named
  have hlocks := B.notSynchronized
  subst hsz
  have hD : va_D (va_A [] s.heap.size) [] := qs_D0
  have hP : va_P qs_G0 [] [] s.heap := qs_P0
  generalize hAe : va_A ([]) s.heap.size = A at hD ⊢
  have hA : ∀ q : Nat, s.heap.size ≤ q → A q := fun q h => by rw [← hAe]; exact Or.inr h
  have hS : va_S A s.heap s.heap [] := va_S.rf
  have hl := lv_entry ([.int a1] : List Value) (n := 1) (Nat.le_of_ble_eq_true rfl)
  rw [lg_entry_eq]
  generalize (lg_sl ([.int a1] : List Value) ++ List.replicate (1 - (lg_sl ([.int a1] : List Value)).length) Slot.unset).toArray = ls at hl ⊢
  have hl : lv_has ls 1 [(0, .int (a1))] := hl
  unfold f_Q_wholeOf at hF
  obtain ⟨H, hHe⟩ : ∃ H, H = s.heap := ⟨_, rfl⟩
  obtain ⟨locs, hLe⟩ : ∃ L : List Loc, L = [] := ⟨_, rfl⟩
  rw [← hHe] at hP ⊢
  rw [← hLe]
  have hS : va_S A s.heap H locs := by rw [hHe, hLe]; exact hS
  refine lv_iload_n hx hb d_Q_wholeOf_0 rfl (lv_at hl 0 rfl) ?_
  refine lv_iconst (v := 3) hx hb d_Q_wholeOf_1 (by decide) ?_
  refine lv_ishr hx hb d_Q_wholeOf_2 ?_
  have h9 := Option.some.inj hF
  exact W.iret (v := a1 >>> (3 &&& 31)) hx hb hr (fun t ht hW => ⟨⟨(a1 >>> (3 &&& 31)), (), rfl, h9, trivial⟩, hS.F ht⟩) hS.2.2 d_Q_wholeOf_3

theorem d_Q_inRange_0 : decode b_Q_inRange 0 = .ok (.lload_n 0, 1) := by decide +kernel
theorem d_Q_inRange_1 : decode b_Q_inRange 1 = .ok (.ldc2_w 209, 3) := by decide +kernel
theorem d_Q_inRange_4 : decode b_Q_inRange 4 = .ok (.lcmp, 1) := by decide +kernel
theorem d_Q_inRange_5 : decode b_Q_inRange 5 = .ok (.ifCond .le 6, 3) := by decide +kernel
theorem d_Q_inRange_8 : decode b_Q_inRange 8 = .ok (.ldc 147, 2) := by decide +kernel
theorem d_Q_inRange_10 : decode b_Q_inRange 10 = .ok (.ireturn, 1) := by decide +kernel
theorem d_Q_inRange_11 : decode b_Q_inRange 11 = .ok (.lload_n 0, 1) := by decide +kernel
theorem d_Q_inRange_12 : decode b_Q_inRange 12 = .ok (.ldc2_w 211, 3) := by decide +kernel
theorem d_Q_inRange_15 : decode b_Q_inRange 15 = .ok (.lcmp, 1) := by decide +kernel
theorem d_Q_inRange_16 : decode b_Q_inRange 16 = .ok (.ifCond .ge 8, 3) := by decide +kernel
theorem d_Q_inRange_19 : decode b_Q_inRange 19 = .ok (.ldc 146, 2) := by decide +kernel
theorem d_Q_inRange_21 : decode b_Q_inRange 21 = .ok (.goto 5, 3) := by decide +kernel
theorem d_Q_inRange_24 : decode b_Q_inRange 24 = .ok (.lload_n 0, 1) := by decide +kernel
theorem d_Q_inRange_25 : decode b_Q_inRange 25 = .ok (.l2i, 1) := by decide +kernel
theorem d_Q_inRange_26 : decode b_Q_inRange 26 = .ok (.ireturn, 1) := by decide +kernel
def f_Q_inRange (a1 : Int64) : Option Int32 := (if (lg_cmp a1 (131072 : Int64)) ≤ 0 then (if 0 ≤ (lg_cmp a1 (-131072 : Int64)) then (some (a1.toInt32)) else (some ((-131072)))) else (some (131072)))
set_option maxHeartbeats 4000000 in
set_option maxRecDepth 100000 in
theorem c_Q_inRange (l : Launch) (sz : Nat) (a1 : Int64) (r0 : Int32) (hF : f_Q_inRange a1 = some r0) : Met l y_Q_inRange (qs_ws y_Q_inRange b_Q_inRange 2 (some .int)) ({ frames := 0, cells := 0, slots := 0, locals := 0 } : Room) (va_Pc ([.long a1] : List Value) (fun U => U.heap.size = sz ∧ qs_N U)) (va_Qi (fun (r : Int32) (_ : Unit) => r = r0) (fun _ _ => True) (va_A [] sz)) 0 0 (va_A [] sz) := by
  refine Met.ofW (cc := b_Q_inRange) (maxL := 2) (ret := (some .int)) (by decide) rfl ?_
  intro p e s m args below meth cd s₁ B hml hv
  obtain ⟨rfl, hsz, hNs⟩ := hv
  have hx := B.exec
  have hb := B.bytes
  have hr := B.returns
  have hts := atoms_spec (ws := (qs_ws y_Q_inRange b_Q_inRange 2 (some .int))) B.pre
  have hg : ∀ w ∈ qs_gt, w.before _ s = true := fun w h => hts w (List.mem_cons_of_mem _ h)
  have hown : s.vm.findClass R_Q = some m.cls := findClass_of_methodNamed B.named
  have hlocks := B.notSynchronized
  subst hsz
  have hD : va_D (va_A [] s.heap.size) [] := qs_D0
  have hP : va_P qs_G0 [] [] s.heap := qs_P0
  generalize hAe : va_A ([]) s.heap.size = A at hD ⊢
  have hA : ∀ q : Nat, s.heap.size ≤ q → A q := fun q h => by rw [← hAe]; exact Or.inr h
  have hS : va_S A s.heap s.heap [] := va_S.rf
  have hl := lv_entry ([.long a1] : List Value) (n := 2) (Nat.le_of_ble_eq_true rfl)
  rw [lg_entry_eq]
  generalize (lg_sl ([.long a1] : List Value) ++ List.replicate (2 - (lg_sl ([.long a1] : List Value)).length) Slot.unset).toArray = ls at hl ⊢
  have hl : lv_has ls 2 [(0, .long (a1))] := hl
  unfold f_Q_inRange at hF
  obtain ⟨H, hHe⟩ : ∃ H, H = s.heap := ⟨_, rfl⟩
  obtain ⟨locs, hLe⟩ : ∃ L : List Loc, L = [] := ⟨_, rfl⟩
  rw [← hHe] at hP ⊢
  rw [← hLe]
  have hS : va_S A s.heap H locs := by rw [hHe, hLe]; exact hS
  refine lv_lload_n hx hb d_Q_inRange_0 rfl (lv_at hl 0 rfl) ?_
  refine lv_ldc2 (v := 131072) hx hb hown (hg _ t_472) d_Q_inRange_1 ?_
  refine W.lcmp hx hb d_Q_inRange_4 ?_
  refine lv_if_le (tgt := 11) hx hb d_Q_inRange_5 (by decide) (fun c1 => ?_) (fun c1 => ?_)
  · have hF := qs_pos c1 hF
    refine lv_lload_n hx hb d_Q_inRange_11 rfl (lv_at hl 0 rfl) ?_
    refine lv_ldc2 (v := (-131072)) hx hb hown (hg _ t_473) d_Q_inRange_12 ?_
    refine W.lcmp hx hb d_Q_inRange_15 ?_
    refine lv_if_ge (tgt := 24) hx hb d_Q_inRange_16 (by decide) (fun c2 => ?_) (fun c2 => ?_)
    · have hF := qs_pos c2 hF
      refine lv_lload_n hx hb d_Q_inRange_24 rfl (lv_at hl 0 rfl) ?_
      refine lv_l2i (v := a1.toInt32) hx hb d_Q_inRange_25 rfl ?_
      have h9 := Option.some.inj hF
      exact W.iret (v := a1.toInt32) hx hb hr (fun t ht hW => ⟨⟨(a1.toInt32), (), rfl, h9, trivial⟩, hS.F ht⟩) hS.2.2 d_Q_inRange_26
    · have hF := qs_neg c2 hF
      refine lv_ldc (v := (-131072)) hx hb hown (hg _ t_415) d_Q_inRange_19 ?_
      refine lv_goto (tgt := 26) hx hb d_Q_inRange_21 (by decide) ?_
      have h9 := Option.some.inj hF
      exact W.iret (v := (-131072)) hx hb hr (fun t ht hW => ⟨⟨(-131072), (), rfl, h9, trivial⟩, hS.F ht⟩) hS.2.2 d_Q_inRange_26
  · have hF := qs_neg c1 hF
    refine lv_ldc (v := 131072) hx hb hown (hg _ t_416) d_Q_inRange_8 ?_
    have h9 := Option.some.inj hF
    exact W.iret (v := 131072) hx hb hr (fun t ht hW => ⟨⟨131072, (), rfl, h9, trivial⟩, hS.F ht⟩) hS.2.2 d_Q_inRange_10
end
section
theorem d_E_isThere_0 : decode b_E_isThere 0 = .ok (.iload_n 1, 1) := by decide +kernel
theorem d_E_isThere_1 : decode b_E_isThere 1 = .ok (.ifCond .lt 22, 3) := by decide +kernel
theorem d_E_isThere_4 : decode b_E_isThere 4 = .ok (.iload_n 1, 1) := by decide +kernel
theorem d_E_isThere_5 : decode b_E_isThere 5 = .ok (.bipush 12, 2) := by decide +kernel
theorem d_E_isThere_7 : decode b_E_isThere 7 = .ok (.if_icmp .ge 16, 3) := by decide +kernel
theorem d_E_isThere_10 : decode b_E_isThere 10 = .ok (.aload_n 0, 1) := by decide +kernel
theorem d_E_isThere_11 : decode b_E_isThere 11 = .ok (.getfield 9, 3) := by decide +kernel
theorem d_E_isThere_14 : decode b_E_isThere 14 = .ok (.iload_n 1, 1) := by decide +kernel
theorem d_E_isThere_15 : decode b_E_isThere 15 = .ok (.baload, 1) := by decide +kernel
theorem d_E_isThere_16 : decode b_E_isThere 16 = .ok (.ifCond .eq 7, 3) := by decide +kernel
theorem d_E_isThere_19 : decode b_E_isThere 19 = .ok (.iconst 1, 1) := by decide +kernel
theorem d_E_isThere_20 : decode b_E_isThere 20 = .ok (.goto 4, 3) := by decide +kernel
theorem d_E_isThere_23 : decode b_E_isThere 23 = .ok (.iconst 0, 1) := by decide +kernel
theorem d_E_isThere_24 : decode b_E_isThere 24 = .ok (.ireturn, 1) := by decide +kernel
def f_E_isThere (g : Sg) (a1 : Int32) : Option (Int32 × Sg) := (if a1 < 0 then (some (0, g)) else (if 12 ≤ a1 then (some (0, g)) else (qs_in (a1) 12 (if (g 7 a1.toNatClampNeg) = 0 then (some (0, g)) else (some (1, g))))))
set_option maxHeartbeats 4000000 in
set_option maxRecDepth 100000 in
theorem c_E_isThere (l : Launch) (dC : Nat → ClassId) (dI : Nat → Nat → Nat) (h : Nat → Nat) (c : Nat → ClassId) (sz : Nat) (g : Sg) (a1 : Int32) (r0 : Int32) (u0 : Sg) (hF : f_E_isThere g a1 = some (r0, u0)) : Met l y_E_isThere (qs_ws y_E_isThere b_E_isThere 2 (some .boolean)) ({ frames := 0, cells := 0, slots := 0, locals := 0 } : Room) (va_Pc ([.ref (h 1), .int a1] : List Value) (fun U => U.heap.size = sz ∧ va_P (dC, dI) vwCl (qs_W h c g) U.heap ∧ va_K (dC, dI) vwCl (qs_T c) U ∧ va_D (fun _ => True) (qs_W h c g) ∧ qs_N U)) (va_Qi (fun (r : Int32) (u : Sg) => r = r0 ∧ u = u0) (qs_at dC dI h c (va_A (qs_W h c g) sz)) (va_A (qs_W h c g) sz)) 0 0 (va_A (qs_W h c g) sz) := by
  refine Met.ofW (cc := b_E_isThere) (maxL := 2) (ret := (some .boolean)) (by decide) rfl ?_
  intro p e s m args below meth cd s₁ B hml hv
  obtain ⟨rfl, hsz, hP, hK, hD0, hNs⟩ := hv
  have hx := B.exec
  have hb := B.bytes
  have hr := B.returns
  have hts := atoms_spec (ws := (qs_ws y_E_isThere b_E_isThere 2 (some .boolean))) B.pre
  have hg : ∀ w ∈ qs_gt, w.before _ s = true := fun w h => hts w (List.mem_cons_of_mem _ h)
  have hown : s.vm.findClass R_E = some m.cls := findClass_of_methodNamed B.named
  have hlocks := B.notSynchronized
  subst hsz
  have hD := hD0.self (sz := s.heap.size)
  generalize hAe : va_A (qs_W h c g) s.heap.size = A at hD ⊢
  have hA : ∀ q : Nat, s.heap.size ≤ q → A q := fun q h => by rw [← hAe]; exact Or.inr h
  have hS : va_S A s.heap s.heap [] := va_S.rf
  have hl := lv_entry ([.ref (h 1), .int a1] : List Value) (n := 2) (Nat.le_of_ble_eq_true rfl)
  rw [lg_entry_eq]
  generalize (lg_sl ([.ref (h 1), .int a1] : List Value) ++ List.replicate (2 - (lg_sl ([.ref (h 1), .int a1] : List Value)).length) Slot.unset).toArray = ls at hl ⊢
  have hl : lv_has ls 2 [(0, .ref (h 1)), (1, .int (a1))] := hl
  unfold f_E_isThere at hF
  obtain ⟨H, hHe⟩ : ∃ H, H = s.heap := ⟨_, rfl⟩
  obtain ⟨locs, hLe⟩ : ∃ L : List Loc, L = [] := ⟨_, rfl⟩
  rw [← hHe] at hP ⊢
  rw [← hLe]
  have hS : va_S A s.heap H locs := by rw [hHe, hLe]; exact hS
  refine lv_iload_n hx hb d_E_isThere_0 rfl (lv_at hl 1 rfl) ?_
  refine lv_if_lt (tgt := 23) hx hb d_E_isThere_1 (by decide) (fun c1 => ?_) (fun c1 => ?_)
  · have hF := qs_pos c1 hF
    refine lv_iconst (v := 0) hx hb d_E_isThere_23 (by decide) ?_
    obtain ⟨h8, h9⟩ := qs_ret hF
    exact W.zret (ty := .boolean) (v := 0) hx hb hr rfl (fun t ht hW => ⟨⟨0, g, rfl, ⟨h8, h9⟩, by rw [ht]; exact hP, va_K.moved hW.alike hK, hD⟩, hS.F ht⟩) hS.2.2 d_E_isThere_24
  · have hF := qs_neg c1 hF
    refine lv_iload_n hx hb d_E_isThere_4 rfl (lv_at hl 1 rfl) ?_
    refine lv_bipush (v := 12) hx hb d_E_isThere_5 (by decide) ?_
    refine lv_icmp_ge (tgt := 23) hx hb d_E_isThere_7 (by decide) (fun c2 => ?_) (fun c2 => ?_)
    · have hF := qs_pos c2 hF
      refine lv_iconst (v := 0) hx hb d_E_isThere_23 (by decide) ?_
      obtain ⟨h8, h9⟩ := qs_ret hF
      exact W.zret (ty := .boolean) (v := 0) hx hb hr rfl (fun t ht hW => ⟨⟨0, g, rfl, ⟨h8, h9⟩, by rw [ht]; exact hP, va_K.moved hW.alike hK, hD⟩, hS.F ht⟩) hS.2.2 d_E_isThere_24
    · have hF := qs_neg c2 hF
      refine lv_aload_n hx hb d_E_isThere_10 rfl (lv_at hl 0 rfl) ?_
      refine va_get (D := (dC, dI)) (ci := 0) (v := .ref (h 7)) (C := R_E) (T := T_E) (N := 2) hx hb hg in_E hown hK hP 1 rfl rfl 0 (by decide) (hg _ t_30) (fun _ h9 => h9) rfl d_E_isThere_11 ?_
      refine lv_iload_n hx hb d_E_isThere_14 rfl (lv_at hl 1 rfl) ?_
      obtain ⟨c3, hF⟩ := qs_in_some hF
      refine va_zald hx hb hK hP 7 0 rfl rfl c3 d_E_isThere_15 ?_
      refine lv_if_eq (tgt := 23) hx hb d_E_isThere_16 (by decide) (fun c4 => ?_) (fun c4 => ?_)
      · have hF := qs_pos c4 hF
        refine lv_iconst (v := 0) hx hb d_E_isThere_23 (by decide) ?_
        obtain ⟨h8, h9⟩ := qs_ret hF
        exact W.zret (ty := .boolean) (v := 0) hx hb hr rfl (fun t ht hW => ⟨⟨0, g, rfl, ⟨h8, h9⟩, by rw [ht]; exact hP, va_K.moved hW.alike hK, hD⟩, hS.F ht⟩) hS.2.2 d_E_isThere_24
      · have hF := qs_neg c4 hF
        refine lv_iconst (v := 1) hx hb d_E_isThere_19 (by decide) ?_
        refine lv_goto (tgt := 24) hx hb d_E_isThere_20 (by decide) ?_
        obtain ⟨h8, h9⟩ := qs_ret hF
        exact W.zret (ty := .boolean) (v := 1) hx hb hr rfl (fun t ht hW => ⟨⟨1, g, rfl, ⟨h8, h9⟩, by rw [ht]; exact hP, va_K.moved hW.alike hK, hD⟩, hS.F ht⟩) hS.2.2 d_E_isThere_24

theorem d_E_number_0 : decode b_E_number 0 = .ok (.iconst 0, 1) := by decide +kernel
theorem d_E_number_1 : decode b_E_number 1 = .ok (.istore_n 1, 1) := by decide +kernel
theorem d_E_number_2 : decode b_E_number 2 = .ok (.iconst 0, 1) := by decide +kernel
theorem d_E_number_3 : decode b_E_number 3 = .ok (.istore_n 2, 1) := by decide +kernel
theorem d_E_number_4 : decode b_E_number 4 = .ok (.iload_n 2, 1) := by decide +kernel
theorem d_E_number_5 : decode b_E_number 5 = .ok (.bipush 12, 2) := by decide +kernel
theorem d_E_number_7 : decode b_E_number 7 = .ok (.if_icmp .ge 21, 3) := by decide +kernel
theorem d_E_number_10 : decode b_E_number 10 = .ok (.aload_n 0, 1) := by decide +kernel
theorem d_E_number_11 : decode b_E_number 11 = .ok (.getfield 9, 3) := by decide +kernel
theorem d_E_number_14 : decode b_E_number 14 = .ok (.iload_n 2, 1) := by decide +kernel
theorem d_E_number_15 : decode b_E_number 15 = .ok (.baload, 1) := by decide +kernel
theorem d_E_number_16 : decode b_E_number 16 = .ok (.ifCond .eq 6, 3) := by decide +kernel
theorem d_E_number_19 : decode b_E_number 19 = .ok (.iinc 1 1, 3) := by decide +kernel
theorem d_E_number_22 : decode b_E_number 22 = .ok (.iinc 2 1, 3) := by decide +kernel
theorem d_E_number_25 : decode b_E_number 25 = .ok (.goto (-21), 3) := by decide +kernel
theorem d_E_number_28 : decode b_E_number 28 = .ok (.iload_n 1, 1) := by decide +kernel
theorem d_E_number_29 : decode b_E_number 29 = .ok (.ireturn, 1) := by decide +kernel
def f_E_number_22 (k4 : Sg → Int32 → Int32 → Option (Int32 × Sg)) (g : Sg) (x1 : Int32) (x2 : Int32) : Option (Int32 × Sg) := (k4 g (x1) (x2 + 1))
def f_E_number_4  : Nat → Sg → Int32 → Int32 → Option (Int32 × Sg)
  | 0, _, _, _ => none
  | n + 1, g, x1, x2 => (if 12 ≤ x2 then (some (x1, g)) else (qs_in (x2) 12 (if (g 7 x2.toNatClampNeg) = 0 then (f_E_number_22 (fun g x1 x2 => f_E_number_4  n g x1 x2) g (x1) (x2)) else (f_E_number_22 (fun g x1 x2 => f_E_number_4  n g x1 x2) g (x1 + 1) (x2)))))
def f_E_number (g : Sg)  : Option (Int32 × Sg) := (f_E_number_4 200 g (0) (0))
set_option maxHeartbeats 4000000 in
set_option maxRecDepth 100000 in
theorem c_E_number (l : Launch) (dC : Nat → ClassId) (dI : Nat → Nat → Nat) (h : Nat → Nat) (c : Nat → ClassId) (sz : Nat) (g : Sg)  (r0 : Int32) (u0 : Sg) (hF : f_E_number g  = some (r0, u0)) : Met l y_E_number (qs_ws y_E_number b_E_number 3 (some .int)) ({ frames := 0, cells := 0, slots := 0, locals := 0 } : Room) (va_Pc ([.ref (h 1)] : List Value) (fun U => U.heap.size = sz ∧ va_P (dC, dI) vwCl (qs_W h c g) U.heap ∧ va_K (dC, dI) vwCl (qs_T c) U ∧ va_D (fun _ => True) (qs_W h c g) ∧ qs_N U)) (va_Qi (fun (r : Int32) (u : Sg) => r = r0 ∧ u = u0) (qs_at dC dI h c (va_A (qs_W h c g) sz)) (va_A (qs_W h c g) sz)) 0 0 (va_A (qs_W h c g) sz) := by
  refine Met.ofW (cc := b_E_number) (maxL := 3) (ret := (some .int)) (by decide) rfl ?_
  intro p e s m args below meth cd s₁ B hml hv
  obtain ⟨rfl, hsz, hP, hK, hD0, hNs⟩ := hv
  have hx := B.exec
  have hb := B.bytes
  have hr := B.returns
  have hts := atoms_spec (ws := (qs_ws y_E_number b_E_number 3 (some .int))) B.pre
  have hg : ∀ w ∈ qs_gt, w.before _ s = true := fun w h => hts w (List.mem_cons_of_mem _ h)
  have hown : s.vm.findClass R_E = some m.cls := findClass_of_methodNamed B.named
  have hlocks := B.notSynchronized
  subst hsz
  have hD := hD0.self (sz := s.heap.size)
  generalize hAe : va_A (qs_W h c g) s.heap.size = A at hD ⊢
  have hA : ∀ q : Nat, s.heap.size ≤ q → A q := fun q h => by rw [← hAe]; exact Or.inr h
  have hS : va_S A s.heap s.heap [] := va_S.rf
  have kb_22 : ∀ (k4 : Sg → Int32 → Int32 → Option (Int32 × Sg)), (∀ (g : Sg) (x1 : Int32) (x2 : Int32) (H : Heap) (locs : List Loc) (ls : Array Slot), va_P (dC, dI) vwCl (qs_W h c g) H → va_D A (qs_W h c g) → va_S A s.heap H locs → lv_has ls 3 [(0, .ref (h 1)), (1, .int (x1)), (2, .int (x2))] → k4 g x1 x2 = some (r0, u0) → W p l e (headSpec (qs_ws y_E_number b_E_number 3 (some .int)) ({ frames := 0, cells := 0, slots := 0, locals := 0 } : Room)).room s m ([.ref (h 1)] : List Value).toArray below meth cd H locs 0 0 (MQ below (va_Qi (fun (r : Int32) (u : Sg) => r = r0 ∧ u = u0) (qs_at dC dI h c A) A) ([.ref (h 1)] : List Value).toArray s 0 0 A) (F0 m 4 ls [])) → ∀ (g : Sg) (x1 : Int32) (x2 : Int32) (H : Heap) (locs : List Loc) (ls : Array Slot), va_P (dC, dI) vwCl (qs_W h c g) H → va_D A (qs_W h c g) → va_S A s.heap H locs → lv_has ls 3 [(0, .ref (h 1)), (1, .int (x1)), (2, .int (x2))] → f_E_number_22 k4  g x1 x2 = some (r0, u0) → W p l e (headSpec (qs_ws y_E_number b_E_number 3 (some .int)) ({ frames := 0, cells := 0, slots := 0, locals := 0 } : Room)).room s m ([.ref (h 1)] : List Value).toArray below meth cd H locs 0 0 (MQ below (va_Qi (fun (r : Int32) (u : Sg) => r = r0 ∧ u = u0) (qs_at dC dI h c A) A) ([.ref (h 1)] : List Value).toArray s 0 0 A) (F0 m 22 ls []) := by
    intro k4 hk4
    intro g x1 x2 H locs ls hP hD hS hl hF
    unfold f_E_number_22 at hF
    refine lv_iinc (v := x2 + 1) (lv' := [(2, .int (x2 + 1)), (0, .ref (h 1)), (1, .int (x1))]) hx hb d_E_number_22 hl (k := 2) rfl (by rfl) (by decide) rfl (fun ls hl => ?_)
    refine lv_goto (tgt := 4) hx hb d_E_number_25 (by decide) ?_
    exact hk4 g (x1) (x2 + 1) H locs ls hP hD hS (lv_sub hl [1, 2, 0] rfl) hF
  have kb_4 : ∀ n : Nat, ∀ (g : Sg) (x1 : Int32) (x2 : Int32) (H : Heap) (locs : List Loc) (ls : Array Slot), va_P (dC, dI) vwCl (qs_W h c g) H → va_D A (qs_W h c g) → va_S A s.heap H locs → lv_has ls 3 [(0, .ref (h 1)), (1, .int (x1)), (2, .int (x2))] → f_E_number_4 n g x1 x2 = some (r0, u0) → W p l e (headSpec (qs_ws y_E_number b_E_number 3 (some .int)) ({ frames := 0, cells := 0, slots := 0, locals := 0 } : Room)).room s m ([.ref (h 1)] : List Value).toArray below meth cd H locs 0 0 (MQ below (va_Qi (fun (r : Int32) (u : Sg) => r = r0 ∧ u = u0) (qs_at dC dI h c A) A) ([.ref (h 1)] : List Value).toArray s 0 0 A) (F0 m 4 ls []) := by
    intro n
    induction n with
    | zero =>
      intro g x1 x2 H locs ls hP hD hS hl hF
      exact nomatch (show (none : Option (Int32 × Sg)) = some _ from hF)
    | succ n ih =>
      intro g x1 x2 H locs ls hP hD hS hl hF
      rw [f_E_number_4] at hF
      refine lv_iload_n hx hb d_E_number_4 rfl (lv_at hl 2 rfl) ?_
      refine lv_bipush (v := 12) hx hb d_E_number_5 (by decide) ?_
      refine lv_icmp_ge (tgt := 28) hx hb d_E_number_7 (by decide) (fun c1 => ?_) (fun c1 => ?_)
      · have hF := qs_pos c1 hF
        refine lv_iload_n hx hb d_E_number_28 rfl (lv_at hl 1 rfl) ?_
        obtain ⟨h8, h9⟩ := qs_ret hF
        exact W.iret (v := x1) hx hb hr (fun t ht hW => ⟨⟨x1, g, rfl, ⟨h8, h9⟩, by rw [ht]; exact hP, va_K.moved hW.alike hK, hD⟩, hS.F ht⟩) hS.2.2 d_E_number_29
      · have hF := qs_neg c1 hF
        refine lv_aload_n hx hb d_E_number_10 rfl (lv_at hl 0 rfl) ?_
        refine va_get (D := (dC, dI)) (ci := 0) (v := .ref (h 7)) (C := R_E) (T := T_E) (N := 2) hx hb hg in_E hown hK hP 1 rfl rfl 0 (by decide) (hg _ t_30) (fun _ h9 => h9) rfl d_E_number_11 ?_
        refine lv_iload_n hx hb d_E_number_14 rfl (lv_at hl 2 rfl) ?_
        obtain ⟨c2, hF⟩ := qs_in_some hF
        refine va_zald hx hb hK hP 7 0 rfl rfl c2 d_E_number_15 ?_
        refine lv_if_eq (tgt := 22) hx hb d_E_number_16 (by decide) (fun c3 => ?_) (fun c3 => ?_)
        · have hF := qs_pos c3 hF
          exact kb_22 _ ih g (x1) (x2) H locs ls hP hD hS (lv_sub hl [0, 1, 2] rfl) hF
        · have hF := qs_neg c3 hF
          refine lv_iinc (v := x1 + 1) (lv' := [(1, .int (x1 + 1)), (0, .ref (h 1)), (2, .int (x2))]) hx hb d_E_number_19 hl (k := 1) rfl (by rfl) (by decide) rfl (fun ls hl => ?_)
          exact kb_22 _ ih g (x1 + 1) (x2) H locs ls hP hD hS (lv_sub hl [1, 0, 2] rfl) hF
  have hl := lv_entry ([.ref (h 1)] : List Value) (n := 3) (Nat.le_of_ble_eq_true rfl)
  rw [lg_entry_eq]
  generalize (lg_sl ([.ref (h 1)] : List Value) ++ List.replicate (3 - (lg_sl ([.ref (h 1)] : List Value)).length) Slot.unset).toArray = ls at hl ⊢
  have hl : lv_has ls 3 [(0, .ref (h 1))] := hl
  unfold f_E_number at hF
  obtain ⟨H, hHe⟩ : ∃ H, H = s.heap := ⟨_, rfl⟩
  obtain ⟨locs, hLe⟩ : ∃ L : List Loc, L = [] := ⟨_, rfl⟩
  rw [← hHe] at hP ⊢
  rw [← hLe]
  have hS : va_S A s.heap H locs := by rw [hHe, hLe]; exact hS
  refine lv_iconst (v := 0) hx hb d_E_number_0 (by decide) ?_
  refine lv_istore_n (lv' := [(1, .int (0)), (0, .ref (h 1))]) hx hb d_E_number_1 rfl hl (by decide) rfl (fun ls hl => ?_)
  refine lv_iconst (v := 0) hx hb d_E_number_2 (by decide) ?_
  refine lv_istore_n (lv' := [(2, .int (0)), (1, .int (0)), (0, .ref (h 1))]) hx hb d_E_number_3 rfl hl (by decide) rfl (fun ls hl => ?_)
  exact kb_4 200 g (0) (0) H locs ls hP hD hS (lv_sub hl [2, 1, 0] rfl) hF

theorem d_E_create_0 : decode b_E_create 0 = .ok (.iconst 0, 1) := by decide +kernel
theorem d_E_create_1 : decode b_E_create 1 = .ok (.istore_n 1, 1) := by decide +kernel
theorem d_E_create_2 : decode b_E_create 2 = .ok (.iload_n 1, 1) := by decide +kernel
theorem d_E_create_3 : decode b_E_create 3 = .ok (.bipush 12, 2) := by decide +kernel
theorem d_E_create_5 : decode b_E_create 5 = .ok (.if_icmp .ge 27, 3) := by decide +kernel
theorem d_E_create_8 : decode b_E_create 8 = .ok (.aload_n 0, 1) := by decide +kernel
theorem d_E_create_9 : decode b_E_create 9 = .ok (.getfield 9, 3) := by decide +kernel
theorem d_E_create_12 : decode b_E_create 12 = .ok (.iload_n 1, 1) := by decide +kernel
theorem d_E_create_13 : decode b_E_create 13 = .ok (.baload, 1) := by decide +kernel
theorem d_E_create_14 : decode b_E_create 14 = .ok (.ifCond .ne 12, 3) := by decide +kernel
theorem d_E_create_17 : decode b_E_create 17 = .ok (.aload_n 0, 1) := by decide +kernel
theorem d_E_create_18 : decode b_E_create 18 = .ok (.getfield 9, 3) := by decide +kernel
theorem d_E_create_21 : decode b_E_create 21 = .ok (.iload_n 1, 1) := by decide +kernel
theorem d_E_create_22 : decode b_E_create 22 = .ok (.iconst 1, 1) := by decide +kernel
theorem d_E_create_23 : decode b_E_create 23 = .ok (.bastore, 1) := by decide +kernel
theorem d_E_create_24 : decode b_E_create 24 = .ok (.iload_n 1, 1) := by decide +kernel
theorem d_E_create_25 : decode b_E_create 25 = .ok (.ireturn, 1) := by decide +kernel
theorem d_E_create_26 : decode b_E_create 26 = .ok (.iinc 1 1, 3) := by decide +kernel
theorem d_E_create_29 : decode b_E_create 29 = .ok (.goto (-27), 3) := by decide +kernel
theorem d_E_create_32 : decode b_E_create 32 = .ok (.iconst (-1), 1) := by decide +kernel
theorem d_E_create_33 : decode b_E_create 33 = .ok (.ireturn, 1) := by decide +kernel
def f_E_create_2  : Nat → Sg → Int32 → Option (Int32 × Sg)
  | 0, _, _ => none
  | n + 1, g, x1 => (if 12 ≤ x1 then (some ((-1), g)) else (qs_in (x1) 12 (if (g 7 x1.toNatClampNeg) = 0 then (qs_in (x1) 12 (some (x1, (qs_a g 7 x1.toNatClampNeg (vp_nar .boolean (1 : Int32)))))) else (f_E_create_2 n g (x1 + 1)))))
def f_E_create (g : Sg)  : Option (Int32 × Sg) := (f_E_create_2 200 g (0))
set_option maxHeartbeats 4000000 in
set_option maxRecDepth 100000 in
theorem c_E_create (l : Launch) (dC : Nat → ClassId) (dI : Nat → Nat → Nat) (h : Nat → Nat) (c : Nat → ClassId) (sz : Nat) (g : Sg)  (r0 : Int32) (u0 : Sg) (hF : f_E_create g  = some (r0, u0)) : Met l y_E_create (qs_ws y_E_create b_E_create 2 (some .int)) ({ frames := 0, cells := 0, slots := 0, locals := 0 } : Room) (va_Pc ([.ref (h 1)] : List Value) (fun U => U.heap.size = sz ∧ va_P (dC, dI) vwCl (qs_W h c g) U.heap ∧ va_K (dC, dI) vwCl (qs_T c) U ∧ va_D (fun _ => True) (qs_W h c g) ∧ qs_N U)) (va_Qi (fun (r : Int32) (u : Sg) => r = r0 ∧ u = u0) (qs_at dC dI h c (va_A (qs_W h c g) sz)) (va_A (qs_W h c g) sz)) 0 0 (va_A (qs_W h c g) sz) := by
  refine Met.ofW (cc := b_E_create) (maxL := 2) (ret := (some .int)) (by decide) rfl ?_
  intro p e s m args below meth cd s₁ B hml hv
  obtain ⟨rfl, hsz, hP, hK, hD0, hNs⟩ := hv
  have hx := B.exec
  have hb := B.bytes
  have hr := B.returns
  have hts := atoms_spec (ws := (qs_ws y_E_create b_E_create 2 (some .int))) B.pre
  have hg : ∀ w ∈ qs_gt, w.before _ s = true := fun w h => hts w (List.mem_cons_of_mem _ h)
  have hown : s.vm.findClass R_E = some m.cls := findClass_of_methodNamed B.named
  have hlocks := B.notSynchronized
  subst hsz
  have hD := hD0.self (sz := s.heap.size)
  generalize hAe : va_A (qs_W h c g) s.heap.size = A at hD ⊢
  have hA : ∀ q : Nat, s.heap.size ≤ q → A q := fun q h => by rw [← hAe]; exact Or.inr h
  have hS : va_S A s.heap s.heap [] := va_S.rf
  have kb_2 : ∀ n : Nat, ∀ (g : Sg) (x1 : Int32) (H : Heap) (locs : List Loc) (ls : Array Slot), va_P (dC, dI) vwCl (qs_W h c g) H → va_D A (qs_W h c g) → va_S A s.heap H locs → lv_has ls 2 [(0, .ref (h 1)), (1, .int (x1))] → f_E_create_2 n g x1 = some (r0, u0) → W p l e (headSpec (qs_ws y_E_create b_E_create 2 (some .int)) ({ frames := 0, cells := 0, slots := 0, locals := 0 } : Room)).room s m ([.ref (h 1)] : List Value).toArray below meth cd H locs 0 0 (MQ below (va_Qi (fun (r : Int32) (u : Sg) => r = r0 ∧ u = u0) (qs_at dC dI h c A) A) ([.ref (h 1)] : List Value).toArray s 0 0 A) (F0 m 2 ls []) := by
    intro n
    induction n with
    | zero =>
      intro g x1 H locs ls hP hD hS hl hF
      exact nomatch (show (none : Option (Int32 × Sg)) = some _ from hF)
    | succ n ih =>
      intro g x1 H locs ls hP hD hS hl hF
      rw [f_E_create_2] at hF
      refine lv_iload_n hx hb d_E_create_2 rfl (lv_at hl 1 rfl) ?_
      refine lv_bipush (v := 12) hx hb d_E_create_3 (by decide) ?_
      refine lv_icmp_ge (tgt := 32) hx hb d_E_create_5 (by decide) (fun c1 => ?_) (fun c1 => ?_)
      · have hF := qs_pos c1 hF
        refine lv_iconst (v := (-1)) hx hb d_E_create_32 (by decide) ?_
        obtain ⟨h8, h9⟩ := qs_ret hF
        exact W.iret (v := (-1)) hx hb hr (fun t ht hW => ⟨⟨(-1), g, rfl, ⟨h8, h9⟩, by rw [ht]; exact hP, va_K.moved hW.alike hK, hD⟩, hS.F ht⟩) hS.2.2 d_E_create_33
      · have hF := qs_neg c1 hF
        refine lv_aload_n hx hb d_E_create_8 rfl (lv_at hl 0 rfl) ?_
        refine va_get (D := (dC, dI)) (ci := 0) (v := .ref (h 7)) (C := R_E) (T := T_E) (N := 2) hx hb hg in_E hown hK hP 1 rfl rfl 0 (by decide) (hg _ t_30) (fun _ h9 => h9) rfl d_E_create_9 ?_
        refine lv_iload_n hx hb d_E_create_12 rfl (lv_at hl 1 rfl) ?_
        obtain ⟨c2, hF⟩ := qs_in_some hF
        refine va_zald hx hb hK hP 7 0 rfl rfl c2 d_E_create_13 ?_
        refine lv_if_ne (tgt := 26) hx hb d_E_create_14 (by decide) (fun c3 => ?_) (fun c3 => ?_)
        · have hF := qs_neg c3 hF
          refine lv_iinc (v := x1 + 1) (lv' := [(1, .int (x1 + 1)), (0, .ref (h 1))]) hx hb d_E_create_26 hl (k := 1) rfl (by rfl) (by decide) rfl (fun ls hl => ?_)
          refine lv_goto (tgt := 2) hx hb d_E_create_29 (by decide) ?_
          exact ih g (x1 + 1) H locs ls hP hD hS (lv_sub hl [1, 0] rfl) hF
        · have hF := qs_pos c3 hF
          refine lv_aload_n hx hb d_E_create_17 rfl (lv_at hl 0 rfl) ?_
          refine va_get (D := (dC, dI)) (ci := 0) (v := .ref (h 7)) (C := R_E) (T := T_E) (N := 2) hx hb hg in_E hown hK hP 1 rfl rfl 0 (by decide) (hg _ t_30) (fun _ h9 => h9) rfl d_E_create_18 ?_
          refine lv_iload_n hx hb d_E_create_21 rfl (lv_at hl 1 rfl) ?_
          refine lv_iconst (v := 1) hx hb d_E_create_22 (by decide) ?_
          obtain ⟨c4, hF⟩ := qs_in_some hF
          refine va_zast hx hb hK hP hD hS 7 0 rfl rfl c4 d_E_create_23 (fun H locs hP hD hS => ?_)
          have hP : va_P (dC, dI) vwCl (qs_W h c (qs_a g 7 x1.toNatClampNeg (vp_nar .boolean (1 : Int32)))) H := hP
          have hD : va_D A (qs_W h c (qs_a g 7 x1.toNatClampNeg (vp_nar .boolean (1 : Int32)))) := hD
          refine lv_iload_n hx hb d_E_create_24 rfl (lv_at hl 1 rfl) ?_
          obtain ⟨h8, h9⟩ := qs_ret hF
          exact W.iret (v := x1) hx hb hr (fun t ht hW => ⟨⟨x1, (qs_a g 7 x1.toNatClampNeg (vp_nar .boolean (1 : Int32))), rfl, ⟨h8, h9⟩, by rw [ht]; exact hP, va_K.moved hW.alike hK, hD⟩, hS.F ht⟩) hS.2.2 d_E_create_25
  have hl := lv_entry ([.ref (h 1)] : List Value) (n := 2) (Nat.le_of_ble_eq_true rfl)
  rw [lg_entry_eq]
  generalize (lg_sl ([.ref (h 1)] : List Value) ++ List.replicate (2 - (lg_sl ([.ref (h 1)] : List Value)).length) Slot.unset).toArray = ls at hl ⊢
  have hl : lv_has ls 2 [(0, .ref (h 1))] := hl
  unfold f_E_create at hF
  obtain ⟨H, hHe⟩ : ∃ H, H = s.heap := ⟨_, rfl⟩
  obtain ⟨locs, hLe⟩ : ∃ L : List Loc, L = [] := ⟨_, rfl⟩
  rw [← hHe] at hP ⊢
  rw [← hLe]
  have hS : va_S A s.heap H locs := by rw [hHe, hLe]; exact hS
  refine lv_iconst (v := 0) hx hb d_E_create_0 (by decide) ?_
  refine lv_istore_n (lv' := [(1, .int (0)), (0, .ref (h 1))]) hx hb d_E_create_1 rfl hl (by decide) rfl (fun ls hl => ?_)
  exact kb_2 200 g (0) H locs ls hP hD hS (lv_sub hl [1, 0] rfl) hF

theorem d_E_field_0 : decode b_E_field 0 = .ok (.iload_n 1, 1) := by decide +kernel
theorem d_E_field_1 : decode b_E_field 1 = .ok (.ifCond .lt 9, 3) := by decide +kernel
theorem d_E_field_4 : decode b_E_field 4 = .ok (.iload_n 1, 1) := by decide +kernel
theorem d_E_field_5 : decode b_E_field 5 = .ok (.bipush 12, 2) := by decide +kernel
theorem d_E_field_7 : decode b_E_field 7 = .ok (.if_icmp .lt 5, 3) := by decide +kernel
theorem d_E_field_10 : decode b_E_field 10 = .ok (.iconst 0, 1) := by decide +kernel
theorem d_E_field_11 : decode b_E_field 11 = .ok (.ireturn, 1) := by decide +kernel
theorem d_E_field_12 : decode b_E_field 12 = .ok (.aload_n 0, 1) := by decide +kernel
theorem d_E_field_13 : decode b_E_field 13 = .ok (.getfield 15, 3) := by decide +kernel
theorem d_E_field_16 : decode b_E_field 16 = .ok (.iload_n 1, 1) := by decide +kernel
theorem d_E_field_17 : decode b_E_field 17 = .ok (.bipush 16, 2) := by decide +kernel
theorem d_E_field_19 : decode b_E_field 19 = .ok (.imul, 1) := by decide +kernel
theorem d_E_field_20 : decode b_E_field 20 = .ok (.iload_n 2, 1) := by decide +kernel
theorem d_E_field_21 : decode b_E_field 21 = .ok (.iadd, 1) := by decide +kernel
theorem d_E_field_22 : decode b_E_field 22 = .ok (.iaload, 1) := by decide +kernel
theorem d_E_field_23 : decode b_E_field 23 = .ok (.ireturn, 1) := by decide +kernel
def f_E_field (g : Sg) (a1 : Int32) (a2 : Int32) : Option (Int32 × Sg) := (if a1 < 0 then (some (0, g)) else (if a1 < 12 then (qs_in ((a1 * 16) + a2) 192 (some (g 8 ((a1 * 16) + a2).toNatClampNeg, g))) else (some (0, g))))
set_option maxHeartbeats 4000000 in
set_option maxRecDepth 100000 in
theorem c_E_field (l : Launch) (dC : Nat → ClassId) (dI : Nat → Nat → Nat) (h : Nat → Nat) (c : Nat → ClassId) (sz : Nat) (g : Sg) (a1 : Int32) (a2 : Int32) (r0 : Int32) (u0 : Sg) (hF : f_E_field g a1 a2 = some (r0, u0)) : Met l y_E_field (qs_ws y_E_field b_E_field 3 (some .int)) ({ frames := 0, cells := 0, slots := 0, locals := 0 } : Room) (va_Pc ([.ref (h 1), .int a1, .int a2] : List Value) (fun U => U.heap.size = sz ∧ va_P (dC, dI) vwCl (qs_W h c g) U.heap ∧ va_K (dC, dI) vwCl (qs_T c) U ∧ va_D (fun _ => True) (qs_W h c g) ∧ qs_N U)) (va_Qi (fun (r : Int32) (u : Sg) => r = r0 ∧ u = u0) (qs_at dC dI h c (va_A (qs_W h c g) sz)) (va_A (qs_W h c g) sz)) 0 0 (va_A (qs_W h c g) sz) := by
  refine Met.ofW (cc := b_E_field) (maxL := 3) (ret := (some .int)) (by decide) rfl ?_
  intro p e s m args below meth cd s₁ B hml hv
  obtain ⟨rfl, hsz, hP, hK, hD0, hNs⟩ := hv
  have hx := B.exec
  have hb := B.bytes
  have hr := B.returns
  have hts := atoms_spec (ws := (qs_ws y_E_field b_E_field 3 (some .int))) B.pre
  have hg : ∀ w ∈ qs_gt, w.before _ s = true := fun w h => hts w (List.mem_cons_of_mem _ h)
  have hown : s.vm.findClass R_E = some m.cls := findClass_of_methodNamed B.named
  have hlocks := B.notSynchronized
  subst hsz
  have hD := hD0.self (sz := s.heap.size)
  generalize hAe : va_A (qs_W h c g) s.heap.size = A at hD ⊢
  have hA : ∀ q : Nat, s.heap.size ≤ q → A q := fun q h => by rw [← hAe]; exact Or.inr h
  have hS : va_S A s.heap s.heap [] := va_S.rf
  have hl := lv_entry ([.ref (h 1), .int a1, .int a2] : List Value) (n := 3) (Nat.le_of_ble_eq_true rfl)
  rw [lg_entry_eq]
  generalize (lg_sl ([.ref (h 1), .int a1, .int a2] : List Value) ++ List.replicate (3 - (lg_sl ([.ref (h 1), .int a1, .int a2] : List Value)).length) Slot.unset).toArray = ls at hl ⊢
  have hl : lv_has ls 3 [(0, .ref (h 1)), (1, .int (a1)), (2, .int (a2))] := hl
  unfold f_E_field at hF
  obtain ⟨H, hHe⟩ : ∃ H, H = s.heap := ⟨_, rfl⟩
  obtain ⟨locs, hLe⟩ : ∃ L : List Loc, L = [] := ⟨_, rfl⟩
  rw [← hHe] at hP ⊢
  rw [← hLe]
  have hS : va_S A s.heap H locs := by rw [hHe, hLe]; exact hS
  refine lv_iload_n hx hb d_E_field_0 rfl (lv_at hl 1 rfl) ?_
  refine lv_if_lt (tgt := 10) hx hb d_E_field_1 (by decide) (fun c1 => ?_) (fun c1 => ?_)
  · have hF := qs_pos c1 hF
    refine lv_iconst (v := 0) hx hb d_E_field_10 (by decide) ?_
    obtain ⟨h8, h9⟩ := qs_ret hF
    exact W.iret (v := 0) hx hb hr (fun t ht hW => ⟨⟨0, g, rfl, ⟨h8, h9⟩, by rw [ht]; exact hP, va_K.moved hW.alike hK, hD⟩, hS.F ht⟩) hS.2.2 d_E_field_11
  · have hF := qs_neg c1 hF
    refine lv_iload_n hx hb d_E_field_4 rfl (lv_at hl 1 rfl) ?_
    refine lv_bipush (v := 12) hx hb d_E_field_5 (by decide) ?_
    refine lv_icmp_lt (tgt := 12) hx hb d_E_field_7 (by decide) (fun c2 => ?_) (fun c2 => ?_)
    · have hF := qs_pos c2 hF
      refine lv_aload_n hx hb d_E_field_12 rfl (lv_at hl 0 rfl) ?_
      refine va_get (D := (dC, dI)) (ci := 0) (v := .ref (h 8)) (C := R_E) (T := T_E) (N := 2) hx hb hg in_E hown hK hP 1 rfl rfl 1 (by decide) (hg _ t_31) (fun _ h9 => h9) rfl d_E_field_13 ?_
      refine lv_iload_n hx hb d_E_field_16 rfl (lv_at hl 1 rfl) ?_
      refine lv_bipush (v := 16) hx hb d_E_field_17 (by decide) ?_
      refine lv_imul hx hb d_E_field_19 ?_
      refine lv_iload_n hx hb d_E_field_20 rfl (lv_at hl 2 rfl) ?_
      refine lv_iadd hx hb d_E_field_21 ?_
      obtain ⟨c3, hF⟩ := qs_in_some hF
      refine va_iald hx hb hK hP 8 1 rfl rfl c3 d_E_field_22 ?_
      obtain ⟨h8, h9⟩ := qs_ret hF
      exact W.iret (v := g 8 ((a1 * 16) + a2).toNatClampNeg) hx hb hr (fun t ht hW => ⟨⟨(g 8 ((a1 * 16) + a2).toNatClampNeg), g, rfl, ⟨h8, h9⟩, by rw [ht]; exact hP, va_K.moved hW.alike hK, hD⟩, hS.F ht⟩) hS.2.2 d_E_field_23
    · have hF := qs_neg c2 hF
      refine lv_iconst (v := 0) hx hb d_E_field_10 (by decide) ?_
      obtain ⟨h8, h9⟩ := qs_ret hF
      exact W.iret (v := 0) hx hb hr (fun t ht hW => ⟨⟨0, g, rfl, ⟨h8, h9⟩, by rw [ht]; exact hP, va_K.moved hW.alike hK, hD⟩, hS.F ht⟩) hS.2.2 d_E_field_11
end
