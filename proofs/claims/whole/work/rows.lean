section
-- ===== PART A: goes FIRST, ahead of the names: the tables' words, and 'selects' of the private methods out of them =====
/-- a private method of a class that the tables say can be made, by its rows of tables_1 -/
def lw_okq (q : MethodName × Nat) : Prop := (q.1.cls ≠ "java/lang/invoke/MethodHandle" ∧ q.1.cls ≠ "java/lang/invoke/VarHandle") ∧ Cond.instantiable q.1.cls q.2 ∈ tables_1 ∧ Cond.privateMethod q.1 ∈ tables_1 ∧ Cond.instanceMethod q.1 ∈ tables_1
theorem lw_p0 : lw_okq (⟨"QuakeServer$LastMessage", "now", "(I)I"⟩, 2) := ⟨⟨by decide +kernel, by decide +kernel⟩, List.mem_of_getElem? (i := 144) (by decide +kernel), List.mem_of_getElem? (i := 184) (by decide +kernel), List.mem_of_getElem? (i := 185) (by decide +kernel)⟩
theorem lw_p1 : lw_okq (⟨"java/lang/Throwable", "fillInStackTrace", "(I)Ljava/lang/Throwable;"⟩, 6) := ⟨⟨by decide +kernel, by decide +kernel⟩, List.mem_of_getElem? (i := 254) (by decide +kernel), List.mem_of_getElem? (i := 252) (by decide +kernel), List.mem_of_getElem? (i := 253) (by decide +kernel)⟩
theorem lw_p2 : lw_okq (⟨"QuakeServer$Machine", "perform", "(I)I"⟩, 11) := ⟨⟨by decide +kernel, by decide +kernel⟩, List.mem_of_getElem? (i := 72) (by decide +kernel), List.mem_of_getElem? (i := 443) (by decide +kernel), List.mem_of_getElem? (i := 444) (by decide +kernel)⟩
theorem lw_p3 : lw_okq (⟨"QuakeServer$Machine", "leaveEndedFunctions", "()V"⟩, 11) := ⟨⟨by decide +kernel, by decide +kernel⟩, List.mem_of_getElem? (i := 72) (by decide +kernel), List.mem_of_getElem? (i := 447) (by decide +kernel), List.mem_of_getElem? (i := 448) (by decide +kernel)⟩
theorem lw_p4 : lw_okq (⟨"QuakeServer$Machine", "step", "()V"⟩, 11) := ⟨⟨by decide +kernel, by decide +kernel⟩, List.mem_of_getElem? (i := 72) (by decide +kernel), List.mem_of_getElem? (i := 452) (by decide +kernel), List.mem_of_getElem? (i := 453) (by decide +kernel)⟩
theorem lw_p5 : lw_okq (⟨"QuakeServer$Machine", "enter", "(I)V"⟩, 11) := ⟨⟨by decide +kernel, by decide +kernel⟩, List.mem_of_getElem? (i := 72) (by decide +kernel), List.mem_of_getElem? (i := 461) (by decide +kernel), List.mem_of_getElem? (i := 462) (by decide +kernel)⟩
theorem lw_p6 : lw_okq (⟨"QuakeServer$Machine", "result", "(III)I"⟩, 11) := ⟨⟨by decide +kernel, by decide +kernel⟩, List.mem_of_getElem? (i := 72) (by decide +kernel), List.mem_of_getElem? (i := 466) (by decide +kernel), List.mem_of_getElem? (i := 467) (by decide +kernel)⟩
theorem lw_p7 : lw_okq (⟨"QuakeServer$Machine", "draw", "()I"⟩, 11) := ⟨⟨by decide +kernel, by decide +kernel⟩, List.mem_of_getElem? (i := 72) (by decide +kernel), List.mem_of_getElem? (i := 485) (by decide +kernel), List.mem_of_getElem? (i := 486) (by decide +kernel)⟩
theorem lw_p8 : lw_okq (⟨"QuakeServer$Mover", "travel", "(II)V"⟩, 6) := ⟨⟨by decide +kernel, by decide +kernel⟩, List.mem_of_getElem? (i := 118) (by decide +kernel), List.mem_of_getElem? (i := 518) (by decide +kernel), List.mem_of_getElem? (i := 519) (by decide +kernel)⟩
theorem lw_p9 : lw_okq (⟨"QuakeServer$Mover", "go", "(II)I"⟩, 6) := ⟨⟨by decide +kernel, by decide +kernel⟩, List.mem_of_getElem? (i := 118) (by decide +kernel), List.mem_of_getElem? (i := 522) (by decide +kernel), List.mem_of_getElem? (i := 523) (by decide +kernel)⟩
theorem lw_p10 : lw_okq (⟨"QuakeServer$Mover", "meetWalls", "(IIZ)V"⟩, 6) := ⟨⟨by decide +kernel, by decide +kernel⟩, List.mem_of_getElem? (i := 118) (by decide +kernel), List.mem_of_getElem? (i := 532) (by decide +kernel), List.mem_of_getElem? (i := 533) (by decide +kernel)⟩
theorem lw_p11 : lw_okq (⟨"QuakeServer$Entities", "sizeUsed", "(I)I"⟩, 2) := ⟨⟨by decide +kernel, by decide +kernel⟩, List.mem_of_getElem? (i := 25) (by decide +kernel), List.mem_of_getElem? (i := 540) (by decide +kernel), List.mem_of_getElem? (i := 541) (by decide +kernel)⟩
theorem lw_p12 : lw_okq (⟨"QuakeServer$Mover", "meet", "(II)V"⟩, 6) := ⟨⟨by decide +kernel, by decide +kernel⟩, List.mem_of_getElem? (i := 118) (by decide +kernel), List.mem_of_getElem? (i := 562) (by decide +kernel), List.mem_of_getElem? (i := 563) (by decide +kernel)⟩
theorem lw_p13 : lw_okq (⟨"QuakeServer$Mover", "meetEntities", "(IIZ)V"⟩, 6) := ⟨⟨by decide +kernel, by decide +kernel⟩, List.mem_of_getElem? (i := 118) (by decide +kernel), List.mem_of_getElem? (i := 566) (by decide +kernel), List.mem_of_getElem? (i := 567) (by decide +kernel)⟩
theorem lw_p14 : lw_okq (⟨"QuakeServer$Mover", "mayBlock", "(II)Z"⟩, 6) := ⟨⟨by decide +kernel, by decide +kernel⟩, List.mem_of_getElem? (i := 118) (by decide +kernel), List.mem_of_getElem? (i := 570) (by decide +kernel), List.mem_of_getElem? (i := 571) (by decide +kernel)⟩
theorem lw_p15 : lw_okq (⟨"QuakeServer$Mover", "touchTriggers", "(I)V"⟩, 6) := ⟨⟨by decide +kernel, by decide +kernel⟩, List.mem_of_getElem? (i := 118) (by decide +kernel), List.mem_of_getElem? (i := 581) (by decide +kernel), List.mem_of_getElem? (i := 582) (by decide +kernel)⟩
def lw_privs_1 : List (MethodName × Nat) := [(⟨"QuakeServer$LastMessage", "now", "(I)I"⟩, 2), (⟨"java/lang/Throwable", "fillInStackTrace", "(I)Ljava/lang/Throwable;"⟩, 6), (⟨"QuakeServer$Machine", "perform", "(I)I"⟩, 11), (⟨"QuakeServer$Machine", "leaveEndedFunctions", "()V"⟩, 11), (⟨"QuakeServer$Machine", "step", "()V"⟩, 11), (⟨"QuakeServer$Machine", "enter", "(I)V"⟩, 11), (⟨"QuakeServer$Machine", "result", "(III)I"⟩, 11), (⟨"QuakeServer$Machine", "draw", "()I"⟩, 11), (⟨"QuakeServer$Mover", "travel", "(II)V"⟩, 6), (⟨"QuakeServer$Mover", "go", "(II)I"⟩, 6), (⟨"QuakeServer$Mover", "meetWalls", "(IIZ)V"⟩, 6), (⟨"QuakeServer$Entities", "sizeUsed", "(I)I"⟩, 2), (⟨"QuakeServer$Mover", "meet", "(II)V"⟩, 6), (⟨"QuakeServer$Mover", "meetEntities", "(IIZ)V"⟩, 6), (⟨"QuakeServer$Mover", "mayBlock", "(II)Z"⟩, 6), (⟨"QuakeServer$Mover", "touchTriggers", "(I)V"⟩, 6)]
theorem lw_r1 : ∀ q ∈ lw_privs_1, lw_okq q := List.forall_mem_cons.mpr ⟨lw_p0, List.forall_mem_cons.mpr ⟨lw_p1, List.forall_mem_cons.mpr ⟨lw_p2, List.forall_mem_cons.mpr ⟨lw_p3, List.forall_mem_cons.mpr ⟨lw_p4, List.forall_mem_cons.mpr ⟨lw_p5, List.forall_mem_cons.mpr ⟨lw_p6, List.forall_mem_cons.mpr ⟨lw_p7, List.forall_mem_cons.mpr ⟨lw_p8, List.forall_mem_cons.mpr ⟨lw_p9, List.forall_mem_cons.mpr ⟨lw_p10, List.forall_mem_cons.mpr ⟨lw_p11, List.forall_mem_cons.mpr ⟨lw_p12, List.forall_mem_cons.mpr ⟨lw_p13, List.forall_mem_cons.mpr ⟨lw_p14, List.forall_mem_cons.mpr ⟨lw_p15, fun _ h => absurd h List.not_mem_nil⟩⟩⟩⟩⟩⟩⟩⟩⟩⟩⟩⟩⟩⟩⟩⟩
theorem lw_p16 : lw_okq (⟨"QuakeServer$Mover", "think", "(I)V"⟩, 6) := ⟨⟨by decide +kernel, by decide +kernel⟩, List.mem_of_getElem? (i := 118) (by decide +kernel), List.mem_of_getElem? (i := 585) (by decide +kernel), List.mem_of_getElem? (i := 586) (by decide +kernel)⟩
theorem lw_p17 : lw_okq (⟨"QuakeServerModel", "fail", "(I)I"⟩, 22) := ⟨⟨by decide +kernel, by decide +kernel⟩, List.mem_of_getElem? (i := 613) (by decide +kernel), List.mem_of_getElem? (i := 698) (by decide +kernel), List.mem_of_getElem? (i := 699) (by decide +kernel)⟩
theorem lw_p18 : lw_okq (⟨"QuakeServerModel", "create", "()I"⟩, 22) := ⟨⟨by decide +kernel, by decide +kernel⟩, List.mem_of_getElem? (i := 613) (by decide +kernel), List.mem_of_getElem? (i := 719) (by decide +kernel), List.mem_of_getElem? (i := 720) (by decide +kernel)⟩
theorem lw_p19 : lw_okq (⟨"QuakeServerModel", "gone", "(I)Z"⟩, 22) := ⟨⟨by decide +kernel, by decide +kernel⟩, List.mem_of_getElem? (i := 613) (by decide +kernel), List.mem_of_getElem? (i := 731) (by decide +kernel), List.mem_of_getElem? (i := 732) (by decide +kernel)⟩
theorem lw_p20 : lw_okq (⟨"QuakeServerModel", "perform", "(IJJZ)I"⟩, 22) := ⟨⟨by decide +kernel, by decide +kernel⟩, List.mem_of_getElem? (i := 613) (by decide +kernel), List.mem_of_getElem? (i := 758) (by decide +kernel), List.mem_of_getElem? (i := 759) (by decide +kernel)⟩
theorem lw_p21 : lw_okq (⟨"QuakeServerModel", "instructions", "(I)I"⟩, 22) := ⟨⟨by decide +kernel, by decide +kernel⟩, List.mem_of_getElem? (i := 613) (by decide +kernel), List.mem_of_getElem? (i := 762) (by decide +kernel), List.mem_of_getElem? (i := 763) (by decide +kernel)⟩
theorem lw_p22 : lw_okq (⟨"QuakeServerModel", "unwound", "(I)I"⟩, 22) := ⟨⟨by decide +kernel, by decide +kernel⟩, List.mem_of_getElem? (i := 613) (by decide +kernel), List.mem_of_getElem? (i := 766) (by decide +kernel), List.mem_of_getElem? (i := 767) (by decide +kernel)⟩
theorem lw_p23 : lw_okq (⟨"QuakeServerModel", "instruction", "(I)V"⟩, 22) := ⟨⟨by decide +kernel, by decide +kernel⟩, List.mem_of_getElem? (i := 613) (by decide +kernel), List.mem_of_getElem? (i := 770) (by decide +kernel), List.mem_of_getElem? (i := 771) (by decide +kernel)⟩
theorem lw_p24 : lw_okq (⟨"QuakeServerModel", "given", "(IJI)J"⟩, 22) := ⟨⟨by decide +kernel, by decide +kernel⟩, List.mem_of_getElem? (i := 613) (by decide +kernel), List.mem_of_getElem? (i := 780) (by decide +kernel), List.mem_of_getElem? (i := 781) (by decide +kernel)⟩
theorem lw_p25 : lw_okq (⟨"QuakeServerModel", "behind", "(I)J"⟩, 22) := ⟨⟨by decide +kernel, by decide +kernel⟩, List.mem_of_getElem? (i := 613) (by decide +kernel), List.mem_of_getElem? (i := 787) (by decide +kernel), List.mem_of_getElem? (i := 788) (by decide +kernel)⟩
theorem lw_p26 : lw_okq (⟨"QuakeServerModel", "drawn", "()J"⟩, 22) := ⟨⟨by decide +kernel, by decide +kernel⟩, List.mem_of_getElem? (i := 613) (by decide +kernel), List.mem_of_getElem? (i := 792) (by decide +kernel), List.mem_of_getElem? (i := 793) (by decide +kernel)⟩
theorem lw_p27 : lw_okq (⟨"QuakeServerModel", "turn", "(I)V"⟩, 22) := ⟨⟨by decide +kernel, by decide +kernel⟩, List.mem_of_getElem? (i := 613) (by decide +kernel), List.mem_of_getElem? (i := 804) (by decide +kernel), List.mem_of_getElem? (i := 805) (by decide +kernel)⟩
theorem lw_p28 : lw_okq (⟨"QuakeServerModel", "go", "(II)V"⟩, 22) := ⟨⟨by decide +kernel, by decide +kernel⟩, List.mem_of_getElem? (i := 613) (by decide +kernel), List.mem_of_getElem? (i := 809) (by decide +kernel), List.mem_of_getElem? (i := 810) (by decide +kernel)⟩
theorem lw_p29 : lw_okq (⟨"QuakeServerModel", "blockers", "(IIZ)V"⟩, 22) := ⟨⟨by decide +kernel, by decide +kernel⟩, List.mem_of_getElem? (i := 613) (by decide +kernel), List.mem_of_getElem? (i := 813) (by decide +kernel), List.mem_of_getElem? (i := 814) (by decide +kernel)⟩
theorem lw_p30 : lw_okq (⟨"QuakeServerModel", "half", "(I)J"⟩, 22) := ⟨⟨by decide +kernel, by decide +kernel⟩, List.mem_of_getElem? (i := 613) (by decide +kernel), List.mem_of_getElem? (i := 817) (by decide +kernel), List.mem_of_getElem? (i := 818) (by decide +kernel)⟩
theorem lw_p31 : lw_okq (⟨"QuakeServerModel", "consider", "(IJZJJ)V"⟩, 22) := ⟨⟨by decide +kernel, by decide +kernel⟩, List.mem_of_getElem? (i := 613) (by decide +kernel), List.mem_of_getElem? (i := 825) (by decide +kernel), List.mem_of_getElem? (i := 826) (by decide +kernel)⟩
def lw_privs_2 : List (MethodName × Nat) := [(⟨"QuakeServer$Mover", "think", "(I)V"⟩, 6), (⟨"QuakeServerModel", "fail", "(I)I"⟩, 22), (⟨"QuakeServerModel", "create", "()I"⟩, 22), (⟨"QuakeServerModel", "gone", "(I)Z"⟩, 22), (⟨"QuakeServerModel", "perform", "(IJJZ)I"⟩, 22), (⟨"QuakeServerModel", "instructions", "(I)I"⟩, 22), (⟨"QuakeServerModel", "unwound", "(I)I"⟩, 22), (⟨"QuakeServerModel", "instruction", "(I)V"⟩, 22), (⟨"QuakeServerModel", "given", "(IJI)J"⟩, 22), (⟨"QuakeServerModel", "behind", "(I)J"⟩, 22), (⟨"QuakeServerModel", "drawn", "()J"⟩, 22), (⟨"QuakeServerModel", "turn", "(I)V"⟩, 22), (⟨"QuakeServerModel", "go", "(II)V"⟩, 22), (⟨"QuakeServerModel", "blockers", "(IIZ)V"⟩, 22), (⟨"QuakeServerModel", "half", "(I)J"⟩, 22), (⟨"QuakeServerModel", "consider", "(IJZJJ)V"⟩, 22)]
theorem lw_r2 : ∀ q ∈ lw_privs_2, lw_okq q := List.forall_mem_cons.mpr ⟨lw_p16, List.forall_mem_cons.mpr ⟨lw_p17, List.forall_mem_cons.mpr ⟨lw_p18, List.forall_mem_cons.mpr ⟨lw_p19, List.forall_mem_cons.mpr ⟨lw_p20, List.forall_mem_cons.mpr ⟨lw_p21, List.forall_mem_cons.mpr ⟨lw_p22, List.forall_mem_cons.mpr ⟨lw_p23, List.forall_mem_cons.mpr ⟨lw_p24, List.forall_mem_cons.mpr ⟨lw_p25, List.forall_mem_cons.mpr ⟨lw_p26, List.forall_mem_cons.mpr ⟨lw_p27, List.forall_mem_cons.mpr ⟨lw_p28, List.forall_mem_cons.mpr ⟨lw_p29, List.forall_mem_cons.mpr ⟨lw_p30, List.forall_mem_cons.mpr ⟨lw_p31, fun _ h => absurd h List.not_mem_nil⟩⟩⟩⟩⟩⟩⟩⟩⟩⟩⟩⟩⟩⟩⟩⟩
theorem lw_p32 : lw_okq (⟨"QuakeServerModel", "meets", "(III)Z"⟩, 22) := ⟨⟨by decide +kernel, by decide +kernel⟩, List.mem_of_getElem? (i := 613) (by decide +kernel), List.mem_of_getElem? (i := 829) (by decide +kernel), List.mem_of_getElem? (i := 830) (by decide +kernel)⟩
theorem lw_p33 : lw_okq (⟨"QuakeServerModel", "touch", "(II)V"⟩, 22) := ⟨⟨by decide +kernel, by decide +kernel⟩, List.mem_of_getElem? (i := 613) (by decide +kernel), List.mem_of_getElem? (i := 834) (by decide +kernel), List.mem_of_getElem? (i := 835) (by decide +kernel)⟩
theorem lw_p34 : lw_okq (⟨"QuakeServerModel", "triggers", "(I)V"⟩, 22) := ⟨⟨by decide +kernel, by decide +kernel⟩, List.mem_of_getElem? (i := 613) (by decide +kernel), List.mem_of_getElem? (i := 838) (by decide +kernel), List.mem_of_getElem? (i := 839) (by decide +kernel)⟩
theorem lw_p35 : lw_okq (⟨"QuakeServerModel", "present", "()I"⟩, 22) := ⟨⟨by decide +kernel, by decide +kernel⟩, List.mem_of_getElem? (i := 613) (by decide +kernel), List.mem_of_getElem? (i := 843) (by decide +kernel), List.mem_of_getElem? (i := 844) (by decide +kernel)⟩
theorem lw_p36 : lw_okq (⟨"QuakeServerModel", "changed", "(II)Z"⟩, 22) := ⟨⟨by decide +kernel, by decide +kernel⟩, List.mem_of_getElem? (i := 613) (by decide +kernel), List.mem_of_getElem? (i := 851) (by decide +kernel), List.mem_of_getElem? (i := 852) (by decide +kernel)⟩
def lw_privs_3 : List (MethodName × Nat) := [(⟨"QuakeServerModel", "meets", "(III)Z"⟩, 22), (⟨"QuakeServerModel", "touch", "(II)V"⟩, 22), (⟨"QuakeServerModel", "triggers", "(I)V"⟩, 22), (⟨"QuakeServerModel", "present", "()I"⟩, 22), (⟨"QuakeServerModel", "changed", "(II)Z"⟩, 22)]
theorem lw_r3 : ∀ q ∈ lw_privs_3, lw_okq q := List.forall_mem_cons.mpr ⟨lw_p32, List.forall_mem_cons.mpr ⟨lw_p33, List.forall_mem_cons.mpr ⟨lw_p34, List.forall_mem_cons.mpr ⟨lw_p35, List.forall_mem_cons.mpr ⟨lw_p36, fun _ h => absurd h List.not_mem_nil⟩⟩⟩⟩⟩
def lw_privs : List (MethodName × Nat) := lw_privs_1 ++ (lw_privs_2 ++ (lw_privs_3))
def lw_tbl : List Cond := k2_sels lw_privs ++ tables_1
theorem lw_privs_ok : ∀ q ∈ lw_privs, lw_okq q := by
  show ∀ q ∈ lw_privs_1 ++ (lw_privs_2 ++ (lw_privs_3)), lw_okq q
  exact List.forall_mem_append.mpr ⟨lw_r1, List.forall_mem_append.mpr ⟨lw_r2, lw_r3⟩⟩
end
section
abbrev R_E : String := "QuakeServer$Entities"
abbrev R_W : String := "QuakeServer$Walls"
abbrev R_P : String := "QuakeServer$Program"
abbrev R_M : String := "QuakeServer$Machine"
abbrev R_V : String := "QuakeServer$Mover"
abbrev R_L : String := "QuakeServer$LastMessage"
abbrev R_Q : String := "QuakeServer"
abbrev R_N : String := "QuakeServerModel"
abbrev R_A : String := "QuakeServerLaw"
abbrev R_J : String := "java/lang/Math"
def T_E : u_T := fun k => match k with
  | 0 => ("QuakeServer$Entities", "there", "[Z", true)
  | _ => ("QuakeServer$Entities", "fields", "[I", true)
def ty_E : Nat → FieldType := fun k => match k with
  | 0 => .array .boolean
  | _ => .array .int
theorem nm_E : ∀ a, a < 2 → ∀ b, b < 2 → a ≠ b → (T_E a).2.1 ≠ (T_E b).2.1 := by decide +kernel
theorem ty_E_ok : ∀ k, k < 2 → parseFieldDescriptor (T_E k).2.2.1 = some (ty_E k) := by decide +kernel
def T_W : u_T := fun k => match k with
  | 0 => ("QuakeServer$Walls", "lows", "[I", true)
  | 1 => ("QuakeServer$Walls", "highs", "[I", true)
  | _ => ("QuakeServer$Walls", "number", "I", false)
def ty_W : Nat → FieldType := fun k => match k with
  | 0 => .array .int
  | 1 => .array .int
  | _ => .int
theorem nm_W : ∀ a, a < 3 → ∀ b, b < 3 → a ≠ b → (T_W a).2.1 ≠ (T_W b).2.1 := by decide +kernel
theorem ty_W_ok : ∀ k, k < 3 → parseFieldDescriptor (T_W k).2.2.1 = some (ty_W k) := by decide +kernel
def T_P : u_T := fun k => match k with
  | 0 => ("QuakeServer$Program", "parts", "[I", true)
  | _ => ("QuakeServer$Program", "lengths", "[I", true)
def ty_P : Nat → FieldType := fun k => match k with
  | 0 => .array .int
  | _ => .array .int
theorem nm_P : ∀ a, a < 2 → ∀ b, b < 2 → a ≠ b → (T_P a).2.1 ≠ (T_P b).2.1 := by decide +kernel
theorem ty_P_ok : ∀ k, k < 2 → parseFieldDescriptor (T_P k).2.2.1 = some (ty_P k) := by decide +kernel
def T_M : u_T := fun k => match k with
  | 0 => ("QuakeServer$Machine", "entities", "LQuakeServer$Entities;", true)
  | 1 => ("QuakeServer$Machine", "program", "LQuakeServer$Program;", true)
  | 2 => ("QuakeServer$Machine", "globals", "[I", true)
  | 3 => ("QuakeServer$Machine", "openFunctions", "[I", true)
  | 4 => ("QuakeServer$Machine", "openPlaces", "[I", true)
  | 5 => ("QuakeServer$Machine", "depth", "I", false)
  | 6 => ("QuakeServer$Machine", "tooDeep", "Z", false)
  | 7 => ("QuakeServer$Machine", "time", "I", false)
  | 8 => ("QuakeServer$Machine", "drawState", "I", false)
  | 9 => ("QuakeServer$Machine", "runaways", "I", false)
  | _ => ("QuakeServer$Machine", "workingRuns", "I", false)
def ty_M : Nat → FieldType := fun k => match k with
  | 0 => .object "QuakeServer$Entities"
  | 1 => .object "QuakeServer$Program"
  | 2 => .array .int
  | 3 => .array .int
  | 4 => .array .int
  | 5 => .int
  | 6 => .boolean
  | 7 => .int
  | 8 => .int
  | 9 => .int
  | _ => .int
theorem nm_M : ∀ a, a < 11 → ∀ b, b < 11 → a ≠ b → (T_M a).2.1 ≠ (T_M b).2.1 := by decide +kernel
theorem ty_M_ok : ∀ k, k < 11 → parseFieldDescriptor (T_M k).2.2.1 = some (ty_M k) := by decide +kernel
def T_V : u_T := fun k => match k with
  | 0 => ("QuakeServer$Mover", "entities", "LQuakeServer$Entities;", true)
  | 1 => ("QuakeServer$Mover", "walls", "LQuakeServer$Walls;", true)
  | 2 => ("QuakeServer$Mover", "machine", "LQuakeServer$Machine;", true)
  | 3 => ("QuakeServer$Mover", "hits", "I", false)
  | 4 => ("QuakeServer$Mover", "reach", "I", false)
  | _ => ("QuakeServer$Mover", "met", "I", false)
def ty_V : Nat → FieldType := fun k => match k with
  | 0 => .object "QuakeServer$Entities"
  | 1 => .object "QuakeServer$Walls"
  | 2 => .object "QuakeServer$Machine"
  | 3 => .int
  | 4 => .int
  | _ => .int
theorem nm_V : ∀ a, a < 6 → ∀ b, b < 6 → a ≠ b → (T_V a).2.1 ≠ (T_V b).2.1 := by decide +kernel
theorem ty_V_ok : ∀ k, k < 6 → parseFieldDescriptor (T_V k).2.2.1 = some (ty_V k) := by decide +kernel
def T_L : u_T := fun k => match k with
  | 0 => ("QuakeServer$LastMessage", "entities", "LQuakeServer$Entities;", true)
  | _ => ("QuakeServer$LastMessage", "told", "[I", true)
def ty_L : Nat → FieldType := fun k => match k with
  | 0 => .object "QuakeServer$Entities"
  | _ => .array .int
theorem nm_L : ∀ a, a < 2 → ∀ b, b < 2 → a ≠ b → (T_L a).2.1 ≠ (T_L b).2.1 := by decide +kernel
theorem ty_L_ok : ∀ k, k < 2 → parseFieldDescriptor (T_L k).2.2.1 = some (ty_L k) := by decide +kernel
def T_Q : u_T := fun k => match k with
  | 0 => ("QuakeServer", "entities", "LQuakeServer$Entities;", true)
  | 1 => ("QuakeServer", "walls", "LQuakeServer$Walls;", true)
  | 2 => ("QuakeServer", "program", "LQuakeServer$Program;", true)
  | 3 => ("QuakeServer", "machine", "LQuakeServer$Machine;", true)
  | 4 => ("QuakeServer", "mover", "LQuakeServer$Mover;", true)
  | _ => ("QuakeServer", "lastMessage", "LQuakeServer$LastMessage;", true)
def ty_Q : Nat → FieldType := fun k => match k with
  | 0 => .object "QuakeServer$Entities"
  | 1 => .object "QuakeServer$Walls"
  | 2 => .object "QuakeServer$Program"
  | 3 => .object "QuakeServer$Machine"
  | 4 => .object "QuakeServer$Mover"
  | _ => .object "QuakeServer$LastMessage"
theorem nm_Q : ∀ a, a < 6 → ∀ b, b < 6 → a ≠ b → (T_Q a).2.1 ≠ (T_Q b).2.1 := by decide +kernel
theorem ty_Q_ok : ∀ k, k < 6 → parseFieldDescriptor (T_Q k).2.2.1 = some (ty_Q k) := by decide +kernel
def T_N : u_T := fun k => match k with
  | 0 => ("QuakeServerModel", "thrown", "I", false)
  | 1 => ("QuakeServerModel", "f", "[J", true)
  | 2 => ("QuakeServerModel", "there", "[Z", true)
  | 3 => ("QuakeServerModel", "told", "[J", true)
  | 4 => ("QuakeServerModel", "toldThere", "[Z", true)
  | 5 => ("QuakeServerModel", "walls", "[J", true)
  | 6 => ("QuakeServerModel", "wallCount", "I", false)
  | 7 => ("QuakeServerModel", "op", "[I", true)
  | 8 => ("QuakeServerModel", "ia", "[I", true)
  | 9 => ("QuakeServerModel", "ib", "[I", true)
  | 10 => ("QuakeServerModel", "ic", "[I", true)
  | 11 => ("QuakeServerModel", "size", "[I", true)
  | 12 => ("QuakeServerModel", "g", "[J", true)
  | 13 => ("QuakeServerModel", "time", "J", false)
  | 14 => ("QuakeServerModel", "state", "I", false)
  | 15 => ("QuakeServerModel", "runaways", "I", false)
  | 16 => ("QuakeServerModel", "runs", "I", false)
  | 17 => ("QuakeServerModel", "hits", "I", false)
  | 18 => ("QuakeServerModel", "back", "[I", true)
  | 19 => ("QuakeServerModel", "hit", "I", false)
  | 20 => ("QuakeServerModel", "distance", "J", false)
  | _ => ("QuakeServerModel", "depth", "I", false)
def ty_N : Nat → FieldType := fun k => match k with
  | 0 => .int
  | 1 => .array .long
  | 2 => .array .boolean
  | 3 => .array .long
  | 4 => .array .boolean
  | 5 => .array .long
  | 6 => .int
  | 7 => .array .int
  | 8 => .array .int
  | 9 => .array .int
  | 10 => .array .int
  | 11 => .array .int
  | 12 => .array .long
  | 13 => .long
  | 14 => .int
  | 15 => .int
  | 16 => .int
  | 17 => .int
  | 18 => .array .int
  | 19 => .int
  | 20 => .long
  | _ => .int
theorem nm_N : ∀ a, a < 22 → ∀ b, b < 22 → a ≠ b → (T_N a).2.1 ≠ (T_N b).2.1 := by decide +kernel
theorem ty_N_ok : ∀ k, k < 22 → parseFieldDescriptor (T_N k).2.2.1 = some (ty_N k) := by decide +kernel
abbrev vwCl : List vw_C := [(R_E, T_E, 2), (R_W, T_W, 3), (R_P, T_P, 2), (R_M, T_M, 11), (R_V, T_V, 6), (R_L, T_L, 2), (R_Q, T_Q, 6), (R_N, T_N, 22)]
abbrev b_Q_init : ByteArray := prog_1_method_1_code
abbrev y_Q_init : MethodName := ⟨"QuakeServer", "<init>", "()V"⟩
abbrev b_E_init : ByteArray := prog_2_method_1_code
abbrev y_E_init : MethodName := ⟨"QuakeServer$Entities", "<init>", "()V"⟩
abbrev b_W_init : ByteArray := prog_7_method_1_code
abbrev y_W_init : MethodName := ⟨"QuakeServer$Walls", "<init>", "()V"⟩
abbrev b_P_init : ByteArray := prog_6_method_1_code
abbrev y_P_init : MethodName := ⟨"QuakeServer$Program", "<init>", "()V"⟩
abbrev b_M_init : ByteArray := prog_4_method_1_code
abbrev y_M_init : MethodName := ⟨"QuakeServer$Machine", "<init>", "(LQuakeServer$Entities;LQuakeServer$Program;)V"⟩
abbrev b_V_init : ByteArray := prog_5_method_1_code
abbrev y_V_init : MethodName := ⟨"QuakeServer$Mover", "<init>", "(LQuakeServer$Entities;LQuakeServer$Walls;LQuakeServer$Machine;)V"⟩
abbrev b_L_init : ByteArray := prog_3_method_1_code
abbrev y_L_init : MethodName := ⟨"QuakeServer$LastMessage", "<init>", "(LQuakeServer$Entities;)V"⟩
abbrev b_Q_changes : ByteArray := prog_1_method_12_code
abbrev y_Q_changes : MethodName := ⟨"QuakeServer", "changes", "()I"⟩
abbrev b_L_differences : ByteArray := prog_3_method_3_code
abbrev y_L_differences : MethodName := ⟨"QuakeServer$LastMessage", "differences", "()I"⟩
abbrev b_L_now : ByteArray := prog_3_method_2_code
abbrev y_L_now : MethodName := ⟨"QuakeServer$LastMessage", "now", "(I)I"⟩
abbrev b_E_isThere : ByteArray := prog_2_method_2_code
abbrev y_E_isThere : MethodName := ⟨"QuakeServer$Entities", "isThere", "(I)Z"⟩
abbrev b_E_field : ByteArray := prog_2_method_7_code
abbrev y_E_field : MethodName := ⟨"QuakeServer$Entities", "field", "(II)I"⟩
abbrev b_Q_message : ByteArray := prog_1_method_14_code
abbrev y_Q_message : MethodName := ⟨"QuakeServer", "message", "()I"⟩
abbrev b_L_tellAll : ByteArray := prog_3_method_5_code
abbrev y_L_tellAll : MethodName := ⟨"QuakeServer$LastMessage", "tellAll", "()V"⟩
abbrev b_A_wall : ByteArray := method_3_code
abbrev y_A_wall : MethodName := ⟨"QuakeServerLaw", "wall", "(LQuakeServer;IIII[J)I"⟩
abbrev b_Q_wall : ByteArray := prog_1_method_2_code
abbrev y_Q_wall : MethodName := ⟨"QuakeServer", "wall", "(IIII)I"⟩
abbrev b_Q_isInWorld : ByteArray := prog_1_method_18_code
abbrev y_Q_isInWorld : MethodName := ⟨"QuakeServer", "isInWorld", "(I)Z"⟩
abbrev b_W_add : ByteArray := prog_7_method_2_code
abbrev y_W_add : MethodName := ⟨"QuakeServer$Walls", "add", "(IIII)I"⟩
abbrev b_A_instr : ByteArray := method_4_code
abbrev y_A_instr : MethodName := ⟨"QuakeServerLaw", "instr", "(LQuakeServer;IIIII[J)I"⟩
abbrev b_Q_instr : ByteArray := prog_1_method_3_code
abbrev y_Q_instr : MethodName := ⟨"QuakeServer", "instr", "(IIIII)I"⟩
abbrev b_Q_isBelow : ByteArray := prog_1_method_16_code
abbrev y_Q_isBelow : MethodName := ⟨"QuakeServer", "isBelow", "(II)Z"⟩
abbrev b_P_isSound : ByteArray := prog_6_method_2_code
abbrev y_P_isSound : MethodName := ⟨"QuakeServer$Program", "isSound", "(IIII)Z"⟩
abbrev b_P_length : ByteArray := prog_6_method_3_code
abbrev y_P_length : MethodName := ⟨"QuakeServer$Program", "length", "(I)I"⟩
abbrev b_P_add : ByteArray := prog_6_method_5_code
abbrev y_P_add : MethodName := ⟨"QuakeServer$Program", "add", "(IIIII)I"⟩
abbrev b_P_firstPart : ByteArray := prog_6_method_4_code
abbrev y_P_firstPart : MethodName := ⟨"QuakeServer$Program", "firstPart", "(II)I"⟩
abbrev b_A_spawn : ByteArray := method_5_code
abbrev y_A_spawn : MethodName := ⟨"QuakeServerLaw", "spawn", "(LQuakeServer;DDD[J)I"⟩
abbrev b_Q_spawn : ByteArray := prog_1_method_4_code
abbrev y_Q_spawn : MethodName := ⟨"QuakeServer", "spawn", "(DDD)I"⟩
abbrev b_Q_isNumber : ByteArray := prog_1_method_19_code
abbrev y_Q_isNumber : MethodName := ⟨"QuakeServer", "isNumber", "(D)Z"⟩
abbrev b_E_create : ByteArray := prog_2_method_4_code
abbrev y_E_create : MethodName := ⟨"QuakeServer$Entities", "create", "()I"⟩
abbrev b_Q_eighthsOf : ByteArray := prog_1_method_20_code
abbrev y_Q_eighthsOf : MethodName := ⟨"QuakeServer", "eighthsOf", "(D)I"⟩
abbrev b_E_put : ByteArray := prog_2_method_9_code
abbrev y_E_put : MethodName := ⟨"QuakeServer$Entities", "put", "(III)V"⟩
abbrev b_A_remove : ByteArray := method_6_code
abbrev y_A_remove : MethodName := ⟨"QuakeServerLaw", "remove", "(LQuakeServer;I[J)I"⟩
abbrev b_Q_remove : ByteArray := prog_1_method_5_code
abbrev y_Q_remove : MethodName := ⟨"QuakeServer", "remove", "(I)I"⟩
abbrev b_E_erase : ByteArray := prog_2_method_5_code
abbrev y_E_erase : MethodName := ⟨"QuakeServer$Entities", "erase", "(I)V"⟩
abbrev b_A_set : ByteArray := method_7_code
abbrev y_A_set : MethodName := ⟨"QuakeServerLaw", "set", "(LQuakeServer;IID[D)I"⟩
abbrev b_Q_set : ByteArray := prog_1_method_6_code
abbrev y_Q_set : MethodName := ⟨"QuakeServer", "set", "(IID)D"⟩
abbrev b_Q_valueOf : ByteArray := prog_1_method_21_code
abbrev y_Q_valueOf : MethodName := ⟨"QuakeServer", "valueOf", "(I)D"⟩
abbrev b_A_get : ByteArray := method_8_code
abbrev y_A_get : MethodName := ⟨"QuakeServerLaw", "get", "(LQuakeServer;II[D)I"⟩
abbrev b_Q_get : ByteArray := prog_1_method_7_code
abbrev y_Q_get : MethodName := ⟨"QuakeServer", "get", "(II)D"⟩
abbrev b_A_setGlobal : ByteArray := method_9_code
abbrev y_A_setGlobal : MethodName := ⟨"QuakeServerLaw", "setGlobal", "(LQuakeServer;II[J)I"⟩
abbrev b_Q_setGlobal : ByteArray := prog_1_method_8_code
abbrev y_Q_setGlobal : MethodName := ⟨"QuakeServer", "setGlobal", "(II)I"⟩
abbrev b_A_global : ByteArray := method_10_code
abbrev y_A_global : MethodName := ⟨"QuakeServerLaw", "global", "(LQuakeServer;I[J)I"⟩
abbrev b_Q_global : ByteArray := prog_1_method_9_code
abbrev y_Q_global : MethodName := ⟨"QuakeServer", "global", "(I)I"⟩
abbrev b_A_run : ByteArray := method_11_code
abbrev y_A_run : MethodName := ⟨"QuakeServerLaw", "run", "(LQuakeServer;III[J)I"⟩
abbrev b_Q_run : ByteArray := prog_1_method_10_code
abbrev y_Q_run : MethodName := ⟨"QuakeServer", "run", "(III)I"⟩
abbrev b_Q_isEntityOrWorld : ByteArray := prog_1_method_17_code
abbrev y_Q_isEntityOrWorld : MethodName := ⟨"QuakeServer", "isEntityOrWorld", "(I)Z"⟩
abbrev b_M_start : ByteArray := prog_4_method_3_code
abbrev y_M_start : MethodName := ⟨"QuakeServer$Machine", "start", "(III)I"⟩
abbrev b_M_perform : ByteArray := prog_4_method_4_code
abbrev y_M_perform : MethodName := ⟨"QuakeServer$Machine", "perform", "(I)I"⟩
abbrev b_M_leaveEndedFunctions : ByteArray := prog_4_method_5_code
abbrev y_M_leaveEndedFunctions : MethodName := ⟨"QuakeServer$Machine", "leaveEndedFunctions", "()V"⟩
abbrev b_M_step : ByteArray := prog_4_method_6_code
abbrev y_M_step : MethodName := ⟨"QuakeServer$Machine", "step", "()V"⟩
abbrev b_Q_wholeOf : ByteArray := prog_1_method_22_code
abbrev y_Q_wholeOf : MethodName := ⟨"QuakeServer", "wholeOf", "(I)I"⟩
abbrev b_M_enter : ByteArray := prog_4_method_7_code
abbrev y_M_enter : MethodName := ⟨"QuakeServer$Machine", "enter", "(I)V"⟩
abbrev b_M_result : ByteArray := prog_4_method_8_code
abbrev y_M_result : MethodName := ⟨"QuakeServer$Machine", "result", "(III)I"⟩
abbrev b_Q_inRange : ByteArray := prog_1_method_23_code
abbrev y_Q_inRange : MethodName := ⟨"QuakeServer", "inRange", "(J)I"⟩
abbrev b_J_floorDiv_JJJ : ByteArray := prog_13_method_49_code
abbrev y_J_floorDiv_JJJ : MethodName := ⟨"java/lang/Math", "floorDiv", "(JJ)J"⟩
abbrev b_E_firstBehind : ByteArray := prog_2_method_6_code
abbrev y_E_firstBehind : MethodName := ⟨"QuakeServer$Entities", "firstBehind", "(I)I"⟩
abbrev b_M_draw : ByteArray := prog_4_method_9_code
abbrev y_M_draw : MethodName := ⟨"QuakeServer$Machine", "draw", "()I"⟩
abbrev b_A_tick : ByteArray := method_12_code
abbrev y_A_tick : MethodName := ⟨"QuakeServerLaw", "tick", "(LQuakeServer;I[J)I"⟩
abbrev b_Q_tick : ByteArray := prog_1_method_11_code
abbrev y_Q_tick : MethodName := ⟨"QuakeServer", "tick", "(I)I"⟩
abbrev b_M_advanceTime : ByteArray := prog_4_method_2_code
abbrev y_M_advanceTime : MethodName := ⟨"QuakeServer$Machine", "advanceTime", "()V"⟩
abbrev b_V_takeTurn : ByteArray := prog_5_method_2_code
abbrev y_V_takeTurn : MethodName := ⟨"QuakeServer$Mover", "takeTurn", "(I)V"⟩
abbrev b_E_wholeField : ByteArray := prog_2_method_8_code
abbrev y_E_wholeField : MethodName := ⟨"QuakeServer$Entities", "wholeField", "(II)I"⟩
abbrev b_V_travel : ByteArray := prog_5_method_3_code
abbrev y_V_travel : MethodName := ⟨"QuakeServer$Mover", "travel", "(II)V"⟩
abbrev b_V_go : ByteArray := prog_5_method_4_code
abbrev y_V_go : MethodName := ⟨"QuakeServer$Mover", "go", "(II)I"⟩
abbrev b_J_floorDiv_III : ByteArray := prog_13_method_47_code
abbrev y_J_floorDiv_III : MethodName := ⟨"java/lang/Math", "floorDiv", "(II)I"⟩
abbrev b_J_abs_II : ByteArray := prog_13_method_59_code
abbrev y_J_abs_II : MethodName := ⟨"java/lang/Math", "abs", "(I)I"⟩
abbrev b_V_meetWalls : ByteArray := prog_5_method_5_code
abbrev y_V_meetWalls : MethodName := ⟨"QuakeServer$Mover", "meetWalls", "(IIZ)V"⟩
abbrev b_E_low : ByteArray := prog_2_method_10_code
abbrev y_E_low : MethodName := ⟨"QuakeServer$Entities", "low", "(II)I"⟩
abbrev b_E_sizeUsed : ByteArray := prog_2_method_12_code
abbrev y_E_sizeUsed : MethodName := ⟨"QuakeServer$Entities", "sizeUsed", "(I)I"⟩
abbrev b_J_min_III : ByteArray := prog_13_method_69_code
abbrev y_J_min_III : MethodName := ⟨"java/lang/Math", "min", "(II)I"⟩
abbrev b_J_max_III : ByteArray := prog_13_method_65_code
abbrev y_J_max_III : MethodName := ⟨"java/lang/Math", "max", "(II)I"⟩
abbrev b_E_high : ByteArray := prog_2_method_11_code
abbrev y_E_high : MethodName := ⟨"QuakeServer$Entities", "high", "(II)I"⟩
abbrev b_W_high : ByteArray := prog_7_method_4_code
abbrev y_W_high : MethodName := ⟨"QuakeServer$Walls", "high", "(II)I"⟩
abbrev b_W_low : ByteArray := prog_7_method_3_code
abbrev y_W_low : MethodName := ⟨"QuakeServer$Walls", "low", "(II)I"⟩
abbrev b_V_meet : ByteArray := prog_5_method_8_code
abbrev y_V_meet : MethodName := ⟨"QuakeServer$Mover", "meet", "(II)V"⟩
abbrev b_V_meetEntities : ByteArray := prog_5_method_6_code
abbrev y_V_meetEntities : MethodName := ⟨"QuakeServer$Mover", "meetEntities", "(IIZ)V"⟩
abbrev b_V_mayBlock : ByteArray := prog_5_method_7_code
abbrev y_V_mayBlock : MethodName := ⟨"QuakeServer$Mover", "mayBlock", "(II)Z"⟩
abbrev b_E_boxesOverlap : ByteArray := prog_2_method_13_code
abbrev y_E_boxesOverlap : MethodName := ⟨"QuakeServer$Entities", "boxesOverlap", "(III)Z"⟩
abbrev b_V_touchTriggers : ByteArray := prog_5_method_9_code
abbrev y_V_touchTriggers : MethodName := ⟨"QuakeServer$Mover", "touchTriggers", "(I)V"⟩
abbrev b_V_think : ByteArray := prog_5_method_10_code
abbrev y_V_think : MethodName := ⟨"QuakeServer$Mover", "think", "(I)V"⟩
abbrev b_E_number : ByteArray := prog_2_method_3_code
abbrev y_E_number : MethodName := ⟨"QuakeServer$Entities", "number", "()I"⟩
abbrev b_A_change : ByteArray := method_13_code
abbrev y_A_change : MethodName := ⟨"QuakeServerLaw", "change", "(LQuakeServer;I[J)I"⟩
abbrev b_Q_change : ByteArray := prog_1_method_13_code
abbrev y_Q_change : MethodName := ⟨"QuakeServer", "change", "(I)I"⟩
abbrev b_L_difference : ByteArray := prog_3_method_4_code
abbrev y_L_difference : MethodName := ⟨"QuakeServer$LastMessage", "difference", "(I)I"⟩
abbrev b_A_count : ByteArray := method_14_code
abbrev y_A_count : MethodName := ⟨"QuakeServerLaw", "count", "(LQuakeServer;I[J)I"⟩
abbrev b_Q_count : ByteArray := prog_1_method_15_code
abbrev y_Q_count : MethodName := ⟨"QuakeServer", "count", "(I)I"⟩
abbrev b_N_init : ByteArray := prog_9_method_1_code
abbrev y_N_init : MethodName := ⟨"QuakeServerModel", "<init>", "()V"⟩
abbrev b_N_thrown : ByteArray := prog_9_method_2_code
abbrev y_N_thrown : MethodName := ⟨"QuakeServerModel", "thrown", "()I"⟩
abbrev b_N_wall : ByteArray := prog_9_method_8_code
abbrev y_N_wall : MethodName := ⟨"QuakeServerModel", "wall", "(IIII)I"⟩
abbrev b_N_in : ByteArray := prog_9_method_4_code
abbrev y_N_in : MethodName := ⟨"QuakeServerModel", "in", "(III)Z"⟩
abbrev b_N_fail : ByteArray := prog_9_method_3_code
abbrev y_N_fail : MethodName := ⟨"QuakeServerModel", "fail", "(I)I"⟩
abbrev b_N_instr : ByteArray := prog_9_method_10_code
abbrev y_N_instr : MethodName := ⟨"QuakeServerModel", "instr", "(IIIII)I"⟩
abbrev b_N_fits : ByteArray := prog_9_method_9_code
abbrev y_N_fits : MethodName := ⟨"QuakeServerModel", "fits", "(IIII)Z"⟩
abbrev b_N_spawn : ByteArray := prog_9_method_14_code
abbrev y_N_spawn : MethodName := ⟨"QuakeServerModel", "spawn", "(DDD)I"⟩
abbrev b_N_number : ByteArray := prog_9_method_12_code
abbrev y_N_number : MethodName := ⟨"QuakeServerModel", "number", "(D)Z"⟩
abbrev b_N_create : ByteArray := prog_9_method_11_code
abbrev y_N_create : MethodName := ⟨"QuakeServerModel", "create", "()I"⟩
abbrev b_N_eighths : ByteArray := prog_9_method_13_code
abbrev y_N_eighths : MethodName := ⟨"QuakeServerModel", "eighths", "(D)J"⟩
abbrev b_N_remove : ByteArray := prog_9_method_16_code
abbrev y_N_remove : MethodName := ⟨"QuakeServerModel", "remove", "(I)I"⟩
abbrev b_N_gone : ByteArray := prog_9_method_15_code
abbrev y_N_gone : MethodName := ⟨"QuakeServerModel", "gone", "(I)Z"⟩
abbrev b_N_set : ByteArray := prog_9_method_17_code
abbrev y_N_set : MethodName := ⟨"QuakeServerModel", "set", "(IID)D"⟩
abbrev b_N_get : ByteArray := prog_9_method_18_code
abbrev y_N_get : MethodName := ⟨"QuakeServerModel", "get", "(II)D"⟩
abbrev b_N_setGlobal : ByteArray := prog_9_method_19_code
abbrev y_N_setGlobal : MethodName := ⟨"QuakeServerModel", "setGlobal", "(II)I"⟩
abbrev b_N_global : ByteArray := prog_9_method_20_code
abbrev y_N_global : MethodName := ⟨"QuakeServerModel", "global", "(I)I"⟩
abbrev b_N_run : ByteArray := prog_9_method_28_code
abbrev y_N_run : MethodName := ⟨"QuakeServerModel", "run", "(III)I"⟩
abbrev b_N_perform : ByteArray := prog_9_method_27_code
abbrev y_N_perform : MethodName := ⟨"QuakeServerModel", "perform", "(IJJZ)I"⟩
abbrev b_N_instructions : ByteArray := prog_9_method_26_code
abbrev y_N_instructions : MethodName := ⟨"QuakeServerModel", "instructions", "(I)I"⟩
abbrev b_N_unwound : ByteArray := prog_9_method_25_code
abbrev y_N_unwound : MethodName := ⟨"QuakeServerModel", "unwound", "(I)I"⟩
abbrev b_N_instruction : ByteArray := prog_9_method_24_code
abbrev y_N_instruction : MethodName := ⟨"QuakeServerModel", "instruction", "(I)V"⟩
abbrev b_N_whole : ByteArray := prog_9_method_7_code
abbrev y_N_whole : MethodName := ⟨"QuakeServerModel", "whole", "(J)I"⟩
abbrev b_N_down : ByteArray := prog_9_method_6_code
abbrev y_N_down : MethodName := ⟨"QuakeServerModel", "down", "(JJ)J"⟩
abbrev b_N_given : ByteArray := prog_9_method_23_code
abbrev y_N_given : MethodName := ⟨"QuakeServerModel", "given", "(IJI)J"⟩
abbrev b_N_clamp : ByteArray := prog_9_method_5_code
abbrev y_N_clamp : MethodName := ⟨"QuakeServerModel", "clamp", "(J)J"⟩
abbrev b_N_behind : ByteArray := prog_9_method_22_code
abbrev y_N_behind : MethodName := ⟨"QuakeServerModel", "behind", "(I)J"⟩
abbrev b_N_drawn : ByteArray := prog_9_method_21_code
abbrev y_N_drawn : MethodName := ⟨"QuakeServerModel", "drawn", "()J"⟩
abbrev b_N_tick : ByteArray := prog_9_method_39_code
abbrev y_N_tick : MethodName := ⟨"QuakeServerModel", "tick", "(I)I"⟩
abbrev b_N_turn : ByteArray := prog_9_method_37_code
abbrev y_N_turn : MethodName := ⟨"QuakeServerModel", "turn", "(I)V"⟩
abbrev b_N_go : ByteArray := prog_9_method_35_code
abbrev y_N_go : MethodName := ⟨"QuakeServerModel", "go", "(II)V"⟩
abbrev b_N_blockers : ByteArray := prog_9_method_33_code
abbrev y_N_blockers : MethodName := ⟨"QuakeServerModel", "blockers", "(IIZ)V"⟩
abbrev b_N_half : ByteArray := prog_9_method_29_code
abbrev y_N_half : MethodName := ⟨"QuakeServerModel", "half", "(I)J"⟩
abbrev b_N_overlap : ByteArray := prog_9_method_30_code
abbrev y_N_overlap : MethodName := ⟨"QuakeServerModel", "overlap", "(JJJJ)Z"⟩
abbrev b_N_consider : ByteArray := prog_9_method_32_code
abbrev y_N_consider : MethodName := ⟨"QuakeServerModel", "consider", "(IJZJJ)V"⟩
abbrev b_N_meets : ByteArray := prog_9_method_31_code
abbrev y_N_meets : MethodName := ⟨"QuakeServerModel", "meets", "(III)Z"⟩
abbrev b_N_touch : ByteArray := prog_9_method_34_code
abbrev y_N_touch : MethodName := ⟨"QuakeServerModel", "touch", "(II)V"⟩
abbrev b_N_triggers : ByteArray := prog_9_method_36_code
abbrev y_N_triggers : MethodName := ⟨"QuakeServerModel", "triggers", "(I)V"⟩
abbrev b_N_present : ByteArray := prog_9_method_38_code
abbrev y_N_present : MethodName := ⟨"QuakeServerModel", "present", "()I"⟩
abbrev b_N_changes : ByteArray := prog_9_method_41_code
abbrev y_N_changes : MethodName := ⟨"QuakeServerModel", "changes", "()I"⟩
abbrev b_N_changed : ByteArray := prog_9_method_40_code
abbrev y_N_changed : MethodName := ⟨"QuakeServerModel", "changed", "(II)Z"⟩
abbrev b_N_change : ByteArray := prog_9_method_42_code
abbrev y_N_change : MethodName := ⟨"QuakeServerModel", "change", "(I)I"⟩
abbrev b_N_message : ByteArray := prog_9_method_43_code
abbrev y_N_message : MethodName := ⟨"QuakeServerModel", "message", "()I"⟩
abbrev b_N_count : ByteArray := prog_9_method_44_code
abbrev y_N_count : MethodName := ⟨"QuakeServerModel", "count", "(I)I"⟩
def qs_gt : List Cond := lw_tbl.filter goodWord
abbrev qs_ws (y : MethodName) (b : ByteArray) (n : Nat) (r : Option FieldType) : List Cond := Cond.code y b n r :: qs_gt
theorem qs_gg {w : Cond} (h : w ∈ qs_gt) : goodWord w = true := (List.mem_filter.mp h).2
theorem qs_mem {w : Cond} (i : Nat) (h : tables_1[i]? = some w) (hg : goodWord w = true) : w ∈ qs_gt := List.mem_filter.mpr ⟨List.mem_append_right _ (List.mem_of_getElem? h), hg⟩
theorem qs_memp {w : Cond} (i : Nat) (h : (k2_sels lw_privs)[i]? = some w) (hg : goodWord w = true) : w ∈ qs_gt := List.mem_filter.mpr ⟨List.mem_append_left _ (List.mem_of_getElem? h), hg⟩
theorem qs_in1 {w : Cond} (h : w ∈ qs_gt) : w ∈ qs_gt ∧ ((w.onTables && w.keeps) = true ∨ ∃ ty, w = .arrayClass ty) := ⟨h, good_of_word (qs_gg h)⟩
theorem qs_gc {y : MethodName} {b : ByteArray} {n : Nat} {r : Option FieldType} (h : Cond.code y b n r ∈ qs_gt) : GoodIn qs_gt (qs_ws y b n r) := fun w hw => by
  rcases List.mem_cons.mp hw with rfl | hw
  · exact qs_in1 h
  · exact qs_in1 hw
theorem qs_gV {own C : String} {idx : Nat} {y : MethodName} {b : ByteArray} {n : Nat} {r : Option FieldType} (h1 : Cond.methodLink own idx y ∈ qs_gt) (h2 : Cond.instanceMethod y ∈ qs_gt) (h3 : Cond.selects C y y ∈ qs_gt) (h4 : Cond.initialized C ∈ qs_gt) (h : Cond.code y b n r ∈ qs_gt) : GoodIn qs_gt (wsV own idx C y (qs_ws y b n r)) := fun w hw => by
  rcases List.mem_append.mp hw with hw | hw
  · simp only [List.mem_cons, List.not_mem_nil, or_false] at hw
    rcases hw with rfl | rfl | rfl | rfl
    · exact qs_in1 h1
    · exact qs_in1 h2
    · exact qs_in1 h3
    · exact qs_in1 h4
  · exact qs_gc h w hw
theorem qs_gS {own : String} {idx : Nat} {y : MethodName} {b : ByteArray} {n : Nat} {r : Option FieldType} (h1 : Cond.methodLink own idx y ∈ qs_gt) (h2 : Cond.static y ∈ qs_gt) (h4 : Cond.initialized y.cls ∈ qs_gt) (h : Cond.code y b n r ∈ qs_gt) : GoodIn qs_gt (va_wsS own idx y (qs_ws y b n r)) := fun w hw => by
  rcases List.mem_append.mp hw with hw | hw
  · simp only [List.mem_cons, List.not_mem_nil, or_false] at hw
    rcases hw with rfl | rfl | rfl
    · exact qs_in1 h1
    · exact qs_in1 h2
    · exact qs_in1 h4
  · exact qs_gc h w hw
def qn_F : List (String × Nat × String × String × String × String) := [("QuakeServer", 70, "QuakeServer$Walls", "number", "I", "QuakeServer"), ("QuakeServer$Mover", 96, "QuakeServer$Walls", "number", "I", "QuakeServer"), ("QuakeServer$Machine", 76, "QuakeServer$Program", "parts", "[I", "QuakeServer"), ("QuakeServer", 150, "QuakeServer$Machine", "globals", "[I", "QuakeServer"), ("QuakeServer$Mover", 114, "QuakeServer$Machine", "time", "I", "QuakeServer"), ("QuakeServer", 186, "QuakeServer$Machine", "time", "I", "QuakeServer"), ("QuakeServer", 192, "QuakeServer$Machine", "drawState", "I", "QuakeServer"), ("QuakeServer", 189, "QuakeServer$Machine", "runaways", "I", "QuakeServer"), ("QuakeServer", 195, "QuakeServer$Machine", "workingRuns", "I", "QuakeServer"), ("QuakeServer", 198, "QuakeServer$Mover", "hits", "I", "QuakeServer")]
def qn_M : List (String × Nat × MethodName × String) := [("QuakeServer", 11, ⟨"QuakeServer$Entities", "<init>", "()V"⟩, "QuakeServer"), ("QuakeServer", 18, ⟨"QuakeServer$Walls", "<init>", "()V"⟩, "QuakeServer"), ("QuakeServer", 25, ⟨"QuakeServer$Program", "<init>", "()V"⟩, "QuakeServer"), ("QuakeServer$Program", 18, ⟨"QuakeServer", "isBelow", "(II)Z"⟩, "QuakeServer"), ("QuakeServer$Machine", 40, ⟨"QuakeServer", "isBelow", "(II)Z"⟩, "QuakeServer"), ("QuakeServer$Machine", 79, ⟨"QuakeServer", "wholeOf", "(I)I"⟩, "QuakeServer"), ("QuakeServer$Machine", 36, ⟨"QuakeServer", "inRange", "(J)I"⟩, "QuakeServer"), ("QuakeServer$Entities", 27, ⟨"QuakeServer", "wholeOf", "(I)I"⟩, "QuakeServer"), ("QuakeServer$Mover", 32, ⟨"QuakeServer", "inRange", "(J)I"⟩, "QuakeServer")]
def qn_C : List (String × String) := [("java/lang/IllegalArgumentException", "java/lang/IllegalArgumentException"), ("java/lang/IllegalStateException", "java/lang/IllegalStateException"), ("java/util/NoSuchElementException", "java/util/NoSuchElementException")]
def qn_D : List MethodName := [⟨"java/lang/RuntimeException", "<init>", "()V"⟩, ⟨"java/lang/RuntimeException", "<init>", "(Ljava/lang/String;)V"⟩, ⟨"java/lang/Exception", "<init>", "()V"⟩, ⟨"java/lang/Exception", "<init>", "(Ljava/lang/String;)V"⟩, ⟨"java/lang/Throwable", "<init>", "()V"⟩, ⟨"java/lang/Throwable", "<init>", "(Ljava/lang/String;)V"⟩]
def qs_N (U : State) : Prop := (∀ q ∈ qn_F, va_Nw (.fieldLinkNest q.1 q.2.1 q.2.2.1 q.2.2.2.1 q.2.2.2.2.1 q.2.2.2.2.2) U) ∧ (∀ q ∈ qn_M, va_Nw (.methodLinkNest q.1 q.2.1 q.2.2.1 q.2.2.2) U) ∧ (∀ q ∈ qn_C, va_Nw (.castable q.1 q.2) U) ∧ ∀ q ∈ qn_D, va_Nw (.declares q) U
theorem qs_N.warm {s U : State} (hW : s.WarmedH U.vm) (h : qs_N s) : qs_N U := ⟨fun q hq => va_Nw.warmF hW (h.1 q hq), fun q hq => va_Nw.warmM hW (h.2.1 q hq), fun q hq => va_Nw.warmC hW (h.2.2.1 q hq), fun q hq => va_Nw.warmD hW (h.2.2.2 q hq)⟩
theorem qs_N.same {s U : State} (hv : s.vm = U.vm) (h : qs_N s) : qs_N U := ⟨fun q hq => va_Nw.same rfl hv (h.1 q hq), fun q hq => va_Nw.same rfl hv (h.2.1 q hq), fun q hq => va_Nw.same rfl hv (h.2.2.1 q hq), fun q hq => va_Nw.same rfl hv (h.2.2.2 q hq)⟩
theorem nF_0 {U : State} (h : qs_N U) : va_Nw (.fieldLinkNest "QuakeServer" 70 "QuakeServer$Walls" "number" "I" "QuakeServer") U := h.1 ("QuakeServer", 70, "QuakeServer$Walls", "number", "I", "QuakeServer") (List.mem_of_getElem? (i := 0) rfl)
theorem nF_1 {U : State} (h : qs_N U) : va_Nw (.fieldLinkNest "QuakeServer$Mover" 96 "QuakeServer$Walls" "number" "I" "QuakeServer") U := h.1 ("QuakeServer$Mover", 96, "QuakeServer$Walls", "number", "I", "QuakeServer") (List.mem_of_getElem? (i := 1) rfl)
theorem nF_2 {U : State} (h : qs_N U) : va_Nw (.fieldLinkNest "QuakeServer$Machine" 76 "QuakeServer$Program" "parts" "[I" "QuakeServer") U := h.1 ("QuakeServer$Machine", 76, "QuakeServer$Program", "parts", "[I", "QuakeServer") (List.mem_of_getElem? (i := 2) rfl)
theorem nF_3 {U : State} (h : qs_N U) : va_Nw (.fieldLinkNest "QuakeServer" 150 "QuakeServer$Machine" "globals" "[I" "QuakeServer") U := h.1 ("QuakeServer", 150, "QuakeServer$Machine", "globals", "[I", "QuakeServer") (List.mem_of_getElem? (i := 3) rfl)
theorem nF_4 {U : State} (h : qs_N U) : va_Nw (.fieldLinkNest "QuakeServer$Mover" 114 "QuakeServer$Machine" "time" "I" "QuakeServer") U := h.1 ("QuakeServer$Mover", 114, "QuakeServer$Machine", "time", "I", "QuakeServer") (List.mem_of_getElem? (i := 4) rfl)
theorem nF_5 {U : State} (h : qs_N U) : va_Nw (.fieldLinkNest "QuakeServer" 186 "QuakeServer$Machine" "time" "I" "QuakeServer") U := h.1 ("QuakeServer", 186, "QuakeServer$Machine", "time", "I", "QuakeServer") (List.mem_of_getElem? (i := 5) rfl)
theorem nF_6 {U : State} (h : qs_N U) : va_Nw (.fieldLinkNest "QuakeServer" 192 "QuakeServer$Machine" "drawState" "I" "QuakeServer") U := h.1 ("QuakeServer", 192, "QuakeServer$Machine", "drawState", "I", "QuakeServer") (List.mem_of_getElem? (i := 6) rfl)
theorem nF_7 {U : State} (h : qs_N U) : va_Nw (.fieldLinkNest "QuakeServer" 189 "QuakeServer$Machine" "runaways" "I" "QuakeServer") U := h.1 ("QuakeServer", 189, "QuakeServer$Machine", "runaways", "I", "QuakeServer") (List.mem_of_getElem? (i := 7) rfl)
theorem nF_8 {U : State} (h : qs_N U) : va_Nw (.fieldLinkNest "QuakeServer" 195 "QuakeServer$Machine" "workingRuns" "I" "QuakeServer") U := h.1 ("QuakeServer", 195, "QuakeServer$Machine", "workingRuns", "I", "QuakeServer") (List.mem_of_getElem? (i := 8) rfl)
theorem nF_9 {U : State} (h : qs_N U) : va_Nw (.fieldLinkNest "QuakeServer" 198 "QuakeServer$Mover" "hits" "I" "QuakeServer") U := h.1 ("QuakeServer", 198, "QuakeServer$Mover", "hits", "I", "QuakeServer") (List.mem_of_getElem? (i := 9) rfl)
theorem nM_0 {U : State} (h : qs_N U) : va_Nw (.methodLinkNest "QuakeServer" 11 ⟨"QuakeServer$Entities", "<init>", "()V"⟩ "QuakeServer") U := h.2.1 ("QuakeServer", 11, ⟨"QuakeServer$Entities", "<init>", "()V"⟩, "QuakeServer") (List.mem_of_getElem? (i := 0) rfl)
theorem nM_1 {U : State} (h : qs_N U) : va_Nw (.methodLinkNest "QuakeServer" 18 ⟨"QuakeServer$Walls", "<init>", "()V"⟩ "QuakeServer") U := h.2.1 ("QuakeServer", 18, ⟨"QuakeServer$Walls", "<init>", "()V"⟩, "QuakeServer") (List.mem_of_getElem? (i := 1) rfl)
theorem nM_2 {U : State} (h : qs_N U) : va_Nw (.methodLinkNest "QuakeServer" 25 ⟨"QuakeServer$Program", "<init>", "()V"⟩ "QuakeServer") U := h.2.1 ("QuakeServer", 25, ⟨"QuakeServer$Program", "<init>", "()V"⟩, "QuakeServer") (List.mem_of_getElem? (i := 2) rfl)
theorem nM_3 {U : State} (h : qs_N U) : va_Nw (.methodLinkNest "QuakeServer$Program" 18 ⟨"QuakeServer", "isBelow", "(II)Z"⟩ "QuakeServer") U := h.2.1 ("QuakeServer$Program", 18, ⟨"QuakeServer", "isBelow", "(II)Z"⟩, "QuakeServer") (List.mem_of_getElem? (i := 3) rfl)
theorem nM_4 {U : State} (h : qs_N U) : va_Nw (.methodLinkNest "QuakeServer$Machine" 40 ⟨"QuakeServer", "isBelow", "(II)Z"⟩ "QuakeServer") U := h.2.1 ("QuakeServer$Machine", 40, ⟨"QuakeServer", "isBelow", "(II)Z"⟩, "QuakeServer") (List.mem_of_getElem? (i := 4) rfl)
theorem nM_5 {U : State} (h : qs_N U) : va_Nw (.methodLinkNest "QuakeServer$Machine" 79 ⟨"QuakeServer", "wholeOf", "(I)I"⟩ "QuakeServer") U := h.2.1 ("QuakeServer$Machine", 79, ⟨"QuakeServer", "wholeOf", "(I)I"⟩, "QuakeServer") (List.mem_of_getElem? (i := 5) rfl)
theorem nM_6 {U : State} (h : qs_N U) : va_Nw (.methodLinkNest "QuakeServer$Machine" 36 ⟨"QuakeServer", "inRange", "(J)I"⟩ "QuakeServer") U := h.2.1 ("QuakeServer$Machine", 36, ⟨"QuakeServer", "inRange", "(J)I"⟩, "QuakeServer") (List.mem_of_getElem? (i := 6) rfl)
theorem nM_7 {U : State} (h : qs_N U) : va_Nw (.methodLinkNest "QuakeServer$Entities" 27 ⟨"QuakeServer", "wholeOf", "(I)I"⟩ "QuakeServer") U := h.2.1 ("QuakeServer$Entities", 27, ⟨"QuakeServer", "wholeOf", "(I)I"⟩, "QuakeServer") (List.mem_of_getElem? (i := 7) rfl)
theorem nM_8 {U : State} (h : qs_N U) : va_Nw (.methodLinkNest "QuakeServer$Mover" 32 ⟨"QuakeServer", "inRange", "(J)I"⟩ "QuakeServer") U := h.2.1 ("QuakeServer$Mover", 32, ⟨"QuakeServer", "inRange", "(J)I"⟩, "QuakeServer") (List.mem_of_getElem? (i := 8) rfl)
end
section
/-! The state of a system as numbers: component k, place i. A field of a number is place 0 of its component. -/
abbrev Sg : Type := Nat → Nat → Int32
def qs_i (g : Sg) (k : Nat) (v : Int32) : Sg := fun j => cond (Nat.beq j k) (fun _ => v) (g j)
def qs_a (g : Sg) (k i : Nat) (v : Int32) : Sg := fun j => cond (Nat.beq j k) (upd (g j) i v) (g j)
/-- guards: what the machine would throw by itself is 'none' -/
def qs_in {α : Type} (i : Int32) (n : Nat) (x : Option α) : Option α := if i < 0 ∨ n ≤ i.toNatClampNeg then none else x
theorem qs_in_some {α : Type} {i : Int32} {n : Nat} {x : Option α} {v : α} (h : qs_in i n x = some v) : vp_in i n ∧ x = some v := by
  unfold qs_in at h
  by_cases q : i < 0 ∨ n ≤ i.toNatClampNeg
  · rw [if_pos q] at h; cases h
  · rw [if_neg q] at h; exact ⟨q, h⟩
def qs_nzi {α : Type} (y : Int32) (x : Option α) : Option α := if y = 0 then none else x
theorem qs_nzi_some {α : Type} {y : Int32} {x : Option α} {v : α} (h : qs_nzi y x = some v) : ¬ y = 0 ∧ x = some v := by
  unfold qs_nzi at h
  by_cases q : y = 0
  · rw [if_pos q] at h; cases h
  · rw [if_neg q] at h; exact ⟨q, h⟩
def qs_nzl {α : Type} (y : Int64) (x : Option α) : Option α := if y = 0 then none else x
theorem qs_nzl_some {α : Type} {y : Int64} {x : Option α} {v : α} (h : qs_nzl y x = some v) : ¬ y = 0 ∧ x = some v := by
  unfold qs_nzl at h
  by_cases q : y = 0
  · rw [if_pos q] at h; cases h
  · rw [if_neg q] at h; exact ⟨q, h⟩
def qs_nan {α : Type} (r : UInt64) (x : Option α) : Option α := if r &&& 0x7fffffffffffffff ≤ 0x7ff0000000000000 then x else none
theorem qs_nan_some {α : Type} {r : UInt64} {x : Option α} {v : α} (h : qs_nan r x = some v) : vf_n64 r ∧ x = some v := by
  unfold qs_nan at h
  by_cases q : r &&& 0x7fffffffffffffff ≤ 0x7ff0000000000000
  · rw [if_pos q] at h; exact ⟨q, h⟩
  · rw [if_neg q] at h; cases h
def qs_bo {α : Type} (r : Int32) (x : Option α) : Option α := if r = 0 ∨ r = 1 then x else none
theorem qs_bo_some {α : Type} {r : Int32} {x : Option α} {v : α} (h : qs_bo r x = some v) : narrow .boolean (.int r) = .int r ∧ x = some v := by
  unfold qs_bo at h
  by_cases q : r = 0 ∨ r = 1
  · rw [if_pos q] at h
    refine ⟨?_, h⟩
    rcases q with rfl | rfl <;> rfl
  · rw [if_neg q] at h; cases h
def qs_bn {α β γ : Type} (x : Option (α × β)) (f : α → β → Option γ) : Option γ := x.bind fun q => f q.1 q.2
theorem qs_bn_some {α β γ : Type} {x : Option (α × β)} {f : α → β → Option γ} {v : γ} (h : qs_bn x f = some v) : ∃ r u, x = some (r, u) ∧ f r u = some v := by
  unfold qs_bn at h
  cases x with
  | none => cases h
  | some q => exact ⟨q.1, q.2, rfl, h⟩
def qs_pb {α γ : Type} (x : Option α) (f : α → Option γ) : Option γ := x.bind f
theorem qs_pb_some {α γ : Type} {x : Option α} {f : α → Option γ} {v : γ} (h : qs_pb x f = some v) : ∃ r, x = some r ∧ f r = some v := by
  unfold qs_pb at h
  cases x with
  | none => cases h
  | some q => exact ⟨q, rfl, h⟩
def qs_st {γ : Type} (x : Sg) (f : Sg → Option γ) : Option γ := f x
theorem qs_st_some {γ : Type} {x : Sg} {f : Sg → Option γ} {v : γ} (h : qs_st x f = some v) : ∃ u, u = x ∧ f u = some v := ⟨x, rfl, h⟩
theorem qs_pos {c : Prop} [Decidable c] {α : Type} {x y v : α} (h : c) (hF : (if c then x else y) = v) : x = v := by rw [if_pos h] at hF; exact hF
theorem qs_neg {c : Prop} [Decidable c] {α : Type} {x y v : α} (h : ¬ c) (hF : (if c then x else y) = v) : y = v := by rw [if_neg h] at hF; exact hF
theorem qs_ret {α β : Type} {a c : α} {b d : β} (h : some (a, b) = some (c, d)) : a = c ∧ b = d := by cases h; exact ⟨rfl, rfl⟩
def qs_G0 : va_G := (fun _ => 0, fun _ _ => 0)
theorem qs_P0 {D : va_G} {cl : List vw_C} {H : Heap} : va_P D cl [] H := fun k q h => by simp at h
theorem qs_D0 {A : Nat → Prop} : va_D A [] := ⟨fun i j p q h => by simp at h, fun k q h => by simp at h⟩
theorem qs_blind {av : List Value} {D : va_G} {cl : List vw_C} {tys : List (ClassId × FieldType)} {ws : va_W} {sz : Nat} {B : Nat → Prop} : FrameBlind (va_Pc av (fun U => U.heap.size = sz ∧ va_P D cl ws U.heap ∧ va_K D cl tys U ∧ va_D B ws ∧ qs_N U)) :=
  fun a U g mk q => by
    obtain ⟨q0, q1, qP, qK, qD, qN⟩ := q
    exact ⟨q0, q1, qP, va_K.moved (u := U) (U := U.calling g mk a) (Vm.Alike.refl U.vm) qK, qD, qs_N.same (s := U) (U := U.calling g mk a) rfl qN⟩
theorem qs_blind0 {av : List Value} {sz : Nat} : FrameBlind (va_Pc av (fun U => U.heap.size = sz ∧ qs_N U)) :=
  fun a U g mk q => ⟨q.1, q.2.1, qs_N.same (s := U) (U := U.calling g mk a) rfl q.2.2⟩
section QSC
variable {p : Program} {l : Launch} {e : Env} {R : Room} {s : State} {m : MethodId} {args : Array Value} {below : List Frame} {meth : Method} {cd : Code} {H : Heap} {locs : List Loc} {cells slots : Nat} {Q : State → Prop}
variable {pc : Nat} {ls : Array Slot} {rest st0 : List Value} {a : Array Value} {D : va_G} {cl : List vw_C} {ws : va_W} {A : Nat → Prop} {H0 : Heap}
theorem qs_free0 (hS : va_S A H0 H locs) (hA : ∀ q : Nat, H0.size ≤ q → A q) : ∀ q : Nat, va_A [] H.size q → A q := fun q h => by
  rcases h with ⟨k, e, h⟩ | h
  · simp at h
  · exact hA q (Nat.le_trans hS.1 h)
theorem qs_kept0 {H1 : Heap} (hP : va_P D cl ws H) (hk : ∀ q : Nat, q < H.size → ¬ va_A [] H.size q → H1[q]? = H[q]?) : va_P D cl ws H1 := hP.kept (fun k q hq => hk q.1 (hP k q hq).lt (fun h => by
  rcases h with ⟨k2, e, h2⟩ | h2
  · simp at h2
  · exact absurd (hP k q hq).lt (Nat.not_lt.mpr h2)))
/-- a call of a static method that needs no cells -/
theorem qs_psi {r0 : Int32} (hr : va_Run p l e R s m args below meth cd H locs cells slots 0 0 (F0 m pc ls st0) rest (va_Qi (fun (r : Int32) (_ : Unit) => r = r0) (fun _ _ => True) (va_A [] H.size) a) (va_A [] H.size))
    (hP : va_P D cl ws H) (_ : va_D A ws) (hS : va_S A H0 H locs) (hA : ∀ q : Nat, H0.size ≤ q → A q)
    (kk : ∀ (H1 : Heap) (locs1 : List Loc), va_P D cl ws H1 → va_S A H0 H1 locs1 → W p l e R s m args below meth cd H1 locs1 cells slots Q (F0 m (pc + 3) ls (.int r0 :: rest))) : W p l e R s m args below meth cd H locs cells slots Q (F0 m pc ls st0) := by
  have hFc := qs_free0 hS hA
  refine va_calli hr hS (fun q _ h => hFc q h) hFc (fun r u t H1 locs1 ht hvm hw hB hz hk hS1 => ?_)
  subst hw
  exact kk H1 locs1 (qs_kept0 hP hk) hS1
theorem qs_psl {r0 : Int64} (hr : va_Run p l e R s m args below meth cd H locs cells slots 0 0 (F0 m pc ls st0) rest (va_Ql (fun (r : Int64) (_ : Unit) => r = r0) (fun _ _ => True) (va_A [] H.size) a) (va_A [] H.size))
    (hP : va_P D cl ws H) (_ : va_D A ws) (hS : va_S A H0 H locs) (hA : ∀ q : Nat, H0.size ≤ q → A q)
    (kk : ∀ (H1 : Heap) (locs1 : List Loc), va_P D cl ws H1 → va_S A H0 H1 locs1 → W p l e R s m args below meth cd H1 locs1 cells slots Q (F0 m (pc + 3) ls (.long r0 :: rest))) : W p l e R s m args below meth cd H locs cells slots Q (F0 m pc ls st0) := by
  have hFc := qs_free0 hS hA
  refine va_calll hr hS (fun q _ h => hFc q h) hFc (fun r u t H1 locs1 ht hvm hw hB hz hk hS1 => ?_)
  subst hw
  exact kk H1 locs1 (qs_kept0 hP hk) hS1
theorem qs_psd {r0 : UInt64} (hr : va_Run p l e R s m args below meth cd H locs cells slots 0 0 (F0 m pc ls st0) rest (va_Qd (fun (r : UInt64) (_ : Unit) => r = r0) (fun _ _ => True) (va_A [] H.size) a) (va_A [] H.size))
    (hP : va_P D cl ws H) (_ : va_D A ws) (hS : va_S A H0 H locs) (hA : ∀ q : Nat, H0.size ≤ q → A q)
    (kk : ∀ (H1 : Heap) (locs1 : List Loc), va_P D cl ws H1 → va_S A H0 H1 locs1 → W p l e R s m args below meth cd H1 locs1 cells slots Q (F0 m (pc + 3) ls (.double r0 :: rest))) : W p l e R s m args below meth cd H locs cells slots Q (F0 m pc ls st0) := by
  have hFc := qs_free0 hS hA
  refine va_calld hr hS (fun q _ h => hFc q h) hFc (fun r u t H1 locs1 ht hvm hw hB hz hk hS1 => ?_)
  subst hw
  exact kk H1 locs1 (qs_kept0 hP hk) hS1
variable {Wd : Sg → va_W} {tys : List (ClassId × FieldType)} {g u0 : Sg} {isC : List Nat}
theorem qs_joined {H1 : Heap} (hC : isC.map (fun i => (Wd g)[i]?) = (Wd g).map some) (hP : va_P D cl (Wd g) H) (hD : va_D A (Wd g)) (hk : ∀ q : Nat, q < H.size → ¬ va_A (Wd g) H.size q → H1[q]? = H[q]?) (hF : ∀ q, va_A (Wd g) H.size q → A q) (hP1 : va_P D cl (Wd u0) H1) (hD1 : va_D (va_A (Wd g) H.size) (Wd u0)) : va_P D cl (Wd u0) H1 ∧ va_D A (Wd u0) :=
  va_join (wr := []) (w1 := Wd u0) hP hD isC [] hC rfl rfl (fun i h => by simp at h) hk hF hP1 hD1
/-- a call of a method of the system: the whole world goes in and comes back -/
theorem qs_ci {r0 : Int32} (hr : va_Run p l e R s m args below meth cd H locs cells slots 0 0 (F0 m pc ls st0) rest (va_Qi (fun (r : Int32) (u : Sg) => r = r0 ∧ u = u0) (fun u t => va_P D cl (Wd u) t.heap ∧ va_K D cl tys t ∧ va_D (va_A (Wd g) H.size) (Wd u)) (va_A (Wd g) H.size) a) (va_A (Wd g) H.size))
    (hC : isC.map (fun i => (Wd g)[i]?) = (Wd g).map some) (hP : va_P D cl (Wd g) H) (hD : va_D A (Wd g)) (hS : va_S A H0 H locs) (hA : ∀ q : Nat, H0.size ≤ q → A q)
    (kk : ∀ (H1 : Heap) (locs1 : List Loc), va_P D cl (Wd u0) H1 → va_D A (Wd u0) → va_S A H0 H1 locs1 → W p l e R s m args below meth cd H1 locs1 cells slots Q (F0 m (pc + 3) ls (.int r0 :: rest))) : W p l e R s m args below meth cd H locs cells slots Q (F0 m pc ls st0) := by
  have hFc := va_free (wc := Wd g) hD hS hA isC hC
  refine va_calli hr hS (fun q _ h => hFc q h) hFc (fun r u t H1 locs1 ht hvm hw hB hz hk hS1 => ?_)
  obtain ⟨rfl, rfl⟩ := hw
  obtain ⟨hP1, hK1, hD1⟩ := hB
  rw [ht] at hP1
  obtain ⟨hP2, hD2⟩ := qs_joined hC hP hD hk hFc hP1 hD1
  exact kk H1 locs1 hP2 hD2 hS1
theorem qs_cd {r0 : UInt64} (hr : va_Run p l e R s m args below meth cd H locs cells slots 0 0 (F0 m pc ls st0) rest (va_Qd (fun (r : UInt64) (u : Sg) => r = r0 ∧ u = u0) (fun u t => va_P D cl (Wd u) t.heap ∧ va_K D cl tys t ∧ va_D (va_A (Wd g) H.size) (Wd u)) (va_A (Wd g) H.size) a) (va_A (Wd g) H.size))
    (hC : isC.map (fun i => (Wd g)[i]?) = (Wd g).map some) (hP : va_P D cl (Wd g) H) (hD : va_D A (Wd g)) (hS : va_S A H0 H locs) (hA : ∀ q : Nat, H0.size ≤ q → A q)
    (kk : ∀ (H1 : Heap) (locs1 : List Loc), va_P D cl (Wd u0) H1 → va_D A (Wd u0) → va_S A H0 H1 locs1 → W p l e R s m args below meth cd H1 locs1 cells slots Q (F0 m (pc + 3) ls (.double r0 :: rest))) : W p l e R s m args below meth cd H locs cells slots Q (F0 m pc ls st0) := by
  have hFc := va_free (wc := Wd g) hD hS hA isC hC
  refine va_calld hr hS (fun q _ h => hFc q h) hFc (fun r u t H1 locs1 ht hvm hw hB hz hk hS1 => ?_)
  obtain ⟨rfl, rfl⟩ := hw
  obtain ⟨hP1, hK1, hD1⟩ := hB
  rw [ht] at hP1
  obtain ⟨hP2, hD2⟩ := qs_joined hC hP hD hk hFc hP1 hD1
  exact kk H1 locs1 hP2 hD2 hS1
theorem qs_cv (hr : va_Run p l e R s m args below meth cd H locs cells slots 0 0 (F0 m pc ls st0) rest (va_Qv (fun (u : Sg) => u = u0) (fun u t => va_P D cl (Wd u) t.heap ∧ va_K D cl tys t ∧ va_D (va_A (Wd g) H.size) (Wd u)) (va_A (Wd g) H.size) a) (va_A (Wd g) H.size))
    (hC : isC.map (fun i => (Wd g)[i]?) = (Wd g).map some) (hP : va_P D cl (Wd g) H) (hD : va_D A (Wd g)) (hS : va_S A H0 H locs) (hA : ∀ q : Nat, H0.size ≤ q → A q)
    (kk : ∀ (H1 : Heap) (locs1 : List Loc), va_P D cl (Wd u0) H1 → va_D A (Wd u0) → va_S A H0 H1 locs1 → W p l e R s m args below meth cd H1 locs1 cells slots Q (F0 m (pc + 3) ls rest)) : W p l e R s m args below meth cd H locs cells slots Q (F0 m pc ls st0) := by
  have hFc := va_free (wc := Wd g) hD hS hA isC hC
  refine va_callv hr hS (fun q _ h => hFc q h) hFc (fun u t H1 locs1 ht hvm hw hB hz hk hS1 => ?_)
  obtain rfl := hw
  obtain ⟨hP1, hK1, hD1⟩ := hB
  rw [ht] at hP1
  obtain ⟨hP2, hD2⟩ := qs_joined hC hP hD hk hFc hP1 hD1
  exact kk H1 locs1 hP2 hD2 hS1
end QSC
theorem qs_F {A : Nat → Prop} {s t : State} {H : Heap} {locs : List Loc} (hS : va_S A s.heap H locs) (hz : H.size ≤ t.heap.size) (hk : ∀ q : Nat, q < H.size → t.heap[q]? = H[q]?) : va_F A s t := ⟨Nat.le_trans hS.1 hz, fun q h1 h2 => (hk q (Nat.lt_of_lt_of_le h1 hS.1)).trans (hS.2.1 q h1 h2)⟩
end
section
abbrev qs_W (h : Nat → Nat) (c : Nat → ClassId) (g : Sg) : va_W := [(h 0, .inr (6, [.ref (h 1), .ref (h 2), .ref (h 3), .ref (h 4), .ref (h 5), .ref (h 6)])), (h 1, .inr (0, [.ref (h 7), .ref (h 8)])), (h 2, .inr (1, [.ref (h 9), .ref (h 10), .int (g 20 0)])), (h 3, .inr (2, [.ref (h 11), .ref (h 12)])), (h 4, .inr (3, [.ref (h 1), .ref (h 3), .ref (h 13), .ref (h 14), .ref (h 15), .int (g 21 0), .int (g 22 0), .int (g 23 0), .int (g 24 0), .int (g 25 0), .int (g 26 0)])), (h 5, .inr (4, [.ref (h 1), .ref (h 2), .ref (h 4), .int (g 27 0), .int (g 28 0), .int (g 29 0)])), (h 6, .inr (5, [.ref (h 1), .ref (h 16)])), (h 7, .inl (c 7, 12, .inl (g 7))), (h 8, .inl (c 8, 192, .inl (g 8))), (h 9, .inl (c 9, 12, .inl (g 9))), (h 10, .inl (c 10, 12, .inl (g 10))), (h 11, .inl (c 11, 336, .inl (g 11))), (h 12, .inl (c 12, 6, .inl (g 12))), (h 13, .inl (c 13, 24, .inl (g 13))), (h 14, .inl (c 14, 6, .inl (g 14))), (h 15, .inl (c 15, 6, .inl (g 15))), (h 16, .inl (c 16, 192, .inl (g 16)))]
abbrev qs_T (c : Nat → ClassId) : List (ClassId × FieldType) := [(c 7, .boolean), (c 8, .int), (c 9, .int), (c 10, .int), (c 11, .int), (c 12, .int), (c 13, .int), (c 14, .int), (c 15, .int), (c 16, .int)]
abbrev qs_at (dC : Nat → ClassId) (dI : Nat → Nat → Nat) (h : Nat → Nat) (c : Nat → ClassId) (A : Nat → Prop) (u : Sg) (t : State) : Prop := va_P (dC, dI) vwCl (qs_W h c u) t.heap ∧ va_K (dC, dI) vwCl (qs_T c) t ∧ va_D A (qs_W h c u)
end
section
theorem t_1 : Jvm.Cond.initialized "QuakeServer" ∈ qs_gt := qs_mem 1 (by decide +kernel) (by decide +kernel)
theorem t_2 : Jvm.Cond.initialized "QuakeServer$Entities" ∈ qs_gt := qs_mem 2 (by decide +kernel) (by decide +kernel)
theorem t_3 : Jvm.Cond.initialized "QuakeServer$Walls" ∈ qs_gt := qs_mem 3 (by decide +kernel) (by decide +kernel)
theorem t_4 : Jvm.Cond.initialized "QuakeServer$Program" ∈ qs_gt := qs_mem 4 (by decide +kernel) (by decide +kernel)
theorem t_5 : Jvm.Cond.initialized "QuakeServer$Machine" ∈ qs_gt := qs_mem 5 (by decide +kernel) (by decide +kernel)
theorem t_6 : Jvm.Cond.initialized "QuakeServer$Mover" ∈ qs_gt := qs_mem 6 (by decide +kernel) (by decide +kernel)
theorem t_7 : Jvm.Cond.initialized "QuakeServer$LastMessage" ∈ qs_gt := qs_mem 7 (by decide +kernel) (by decide +kernel)
theorem t_12 : Jvm.Cond.initialized "java/lang/IllegalArgumentException" ∈ qs_gt := qs_mem 12 (by decide +kernel) (by decide +kernel)
theorem t_13 : Jvm.Cond.initialized "java/lang/IllegalStateException" ∈ qs_gt := qs_mem 13 (by decide +kernel) (by decide +kernel)
theorem t_14 : Jvm.Cond.initialized "java/util/NoSuchElementException" ∈ qs_gt := qs_mem 14 (by decide +kernel) (by decide +kernel)
theorem t_15 : Jvm.Cond.initialized "java/lang/Math" ∈ qs_gt := qs_mem 15 (by decide +kernel) (by decide +kernel)
theorem t_30 : Jvm.Cond.fieldLink "QuakeServer$Entities" (9 : Nat) "QuakeServer$Entities" "there" "[Z" ∈ qs_gt := qs_mem 30 (by decide +kernel) (by decide +kernel)
theorem t_31 : Jvm.Cond.fieldLink "QuakeServer$Entities" (15 : Nat) "QuakeServer$Entities" "fields" "[I" ∈ qs_gt := qs_mem 31 (by decide +kernel) (by decide +kernel)
theorem t_32 : Jvm.Cond.laysFinal "QuakeServer$Entities" "QuakeServer$Entities" "there" "[Z" ∈ qs_gt := qs_mem 32 (by decide +kernel) (by decide +kernel)
theorem t_34 : Jvm.Cond.laysFinal "QuakeServer$Entities" "QuakeServer$Entities" "fields" "[I" ∈ qs_gt := qs_mem 34 (by decide +kernel) (by decide +kernel)
theorem t_45 : Jvm.Cond.fieldLink "QuakeServer$Walls" (9 : Nat) "QuakeServer$Walls" "lows" "[I" ∈ qs_gt := qs_mem 45 (by decide +kernel) (by decide +kernel)
theorem t_46 : Jvm.Cond.fieldLink "QuakeServer$Walls" (15 : Nat) "QuakeServer$Walls" "highs" "[I" ∈ qs_gt := qs_mem 46 (by decide +kernel) (by decide +kernel)
theorem t_47 : Jvm.Cond.fieldLink "QuakeServer$Walls" (18 : Nat) "QuakeServer$Walls" "number" "I" ∈ qs_gt := qs_mem 47 (by decide +kernel) (by decide +kernel)
theorem t_50 : Jvm.Cond.laysFinal "QuakeServer$Walls" "QuakeServer$Walls" "lows" "[I" ∈ qs_gt := qs_mem 50 (by decide +kernel) (by decide +kernel)
theorem t_52 : Jvm.Cond.laysFinal "QuakeServer$Walls" "QuakeServer$Walls" "highs" "[I" ∈ qs_gt := qs_mem 52 (by decide +kernel) (by decide +kernel)
theorem t_54 : Jvm.Cond.lays "QuakeServer$Walls" "QuakeServer$Walls" "number" "I" ∈ qs_gt := qs_mem 54 (by decide +kernel) (by decide +kernel)
theorem t_63 : Jvm.Cond.fieldLink "QuakeServer$Program" (11 : Nat) "QuakeServer$Program" "parts" "[I" ∈ qs_gt := qs_mem 63 (by decide +kernel) (by decide +kernel)
theorem t_65 : Jvm.Cond.fieldLink "QuakeServer$Program" (15 : Nat) "QuakeServer$Program" "lengths" "[I" ∈ qs_gt := qs_mem 65 (by decide +kernel) (by decide +kernel)
theorem t_66 : Jvm.Cond.laysFinal "QuakeServer$Program" "QuakeServer$Program" "parts" "[I" ∈ qs_gt := qs_mem 66 (by decide +kernel) (by decide +kernel)
theorem t_68 : Jvm.Cond.laysFinal "QuakeServer$Program" "QuakeServer$Program" "lengths" "[I" ∈ qs_gt := qs_mem 68 (by decide +kernel) (by decide +kernel)
theorem t_77 : Jvm.Cond.fieldLink "QuakeServer$Machine" (25 : Nat) "QuakeServer$Machine" "entities" "LQuakeServer$Entities;" ∈ qs_gt := qs_mem 77 (by decide +kernel) (by decide +kernel)
theorem t_78 : Jvm.Cond.fieldLink "QuakeServer$Machine" (29 : Nat) "QuakeServer$Machine" "program" "LQuakeServer$Program;" ∈ qs_gt := qs_mem 78 (by decide +kernel) (by decide +kernel)
theorem t_79 : Jvm.Cond.fieldLink "QuakeServer$Machine" (9 : Nat) "QuakeServer$Machine" "globals" "[I" ∈ qs_gt := qs_mem 79 (by decide +kernel) (by decide +kernel)
theorem t_81 : Jvm.Cond.fieldLink "QuakeServer$Machine" (15 : Nat) "QuakeServer$Machine" "openFunctions" "[I" ∈ qs_gt := qs_mem 81 (by decide +kernel) (by decide +kernel)
theorem t_82 : Jvm.Cond.fieldLink "QuakeServer$Machine" (18 : Nat) "QuakeServer$Machine" "openPlaces" "[I" ∈ qs_gt := qs_mem 82 (by decide +kernel) (by decide +kernel)
theorem t_83 : Jvm.Cond.fieldLink "QuakeServer$Machine" (51 : Nat) "QuakeServer$Machine" "depth" "I" ∈ qs_gt := qs_mem 83 (by decide +kernel) (by decide +kernel)
theorem t_84 : Jvm.Cond.fieldLink "QuakeServer$Machine" (54 : Nat) "QuakeServer$Machine" "tooDeep" "Z" ∈ qs_gt := qs_mem 84 (by decide +kernel) (by decide +kernel)
theorem t_85 : Jvm.Cond.fieldLink "QuakeServer$Machine" (33 : Nat) "QuakeServer$Machine" "time" "I" ∈ qs_gt := qs_mem 85 (by decide +kernel) (by decide +kernel)
theorem t_88 : Jvm.Cond.fieldLink "QuakeServer$Machine" (21 : Nat) "QuakeServer$Machine" "drawState" "I" ∈ qs_gt := qs_mem 88 (by decide +kernel) (by decide +kernel)
theorem t_90 : Jvm.Cond.fieldLink "QuakeServer$Machine" (64 : Nat) "QuakeServer$Machine" "runaways" "I" ∈ qs_gt := qs_mem 90 (by decide +kernel) (by decide +kernel)
theorem t_92 : Jvm.Cond.fieldLink "QuakeServer$Machine" (48 : Nat) "QuakeServer$Machine" "workingRuns" "I" ∈ qs_gt := qs_mem 92 (by decide +kernel) (by decide +kernel)
theorem t_94 : Jvm.Cond.laysFinal "QuakeServer$Machine" "QuakeServer$Machine" "entities" "LQuakeServer$Entities;" ∈ qs_gt := qs_mem 94 (by decide +kernel) (by decide +kernel)
theorem t_96 : Jvm.Cond.laysFinal "QuakeServer$Machine" "QuakeServer$Machine" "program" "LQuakeServer$Program;" ∈ qs_gt := qs_mem 96 (by decide +kernel) (by decide +kernel)
theorem t_98 : Jvm.Cond.laysFinal "QuakeServer$Machine" "QuakeServer$Machine" "globals" "[I" ∈ qs_gt := qs_mem 98 (by decide +kernel) (by decide +kernel)
theorem t_100 : Jvm.Cond.laysFinal "QuakeServer$Machine" "QuakeServer$Machine" "openFunctions" "[I" ∈ qs_gt := qs_mem 100 (by decide +kernel) (by decide +kernel)
theorem t_102 : Jvm.Cond.laysFinal "QuakeServer$Machine" "QuakeServer$Machine" "openPlaces" "[I" ∈ qs_gt := qs_mem 102 (by decide +kernel) (by decide +kernel)
theorem t_104 : Jvm.Cond.lays "QuakeServer$Machine" "QuakeServer$Machine" "depth" "I" ∈ qs_gt := qs_mem 104 (by decide +kernel) (by decide +kernel)
theorem t_106 : Jvm.Cond.lays "QuakeServer$Machine" "QuakeServer$Machine" "tooDeep" "Z" ∈ qs_gt := qs_mem 106 (by decide +kernel) (by decide +kernel)
theorem t_108 : Jvm.Cond.lays "QuakeServer$Machine" "QuakeServer$Machine" "time" "I" ∈ qs_gt := qs_mem 108 (by decide +kernel) (by decide +kernel)
theorem t_110 : Jvm.Cond.lays "QuakeServer$Machine" "QuakeServer$Machine" "drawState" "I" ∈ qs_gt := qs_mem 110 (by decide +kernel) (by decide +kernel)
theorem t_112 : Jvm.Cond.lays "QuakeServer$Machine" "QuakeServer$Machine" "runaways" "I" ∈ qs_gt := qs_mem 112 (by decide +kernel) (by decide +kernel)
theorem t_114 : Jvm.Cond.lays "QuakeServer$Machine" "QuakeServer$Machine" "workingRuns" "I" ∈ qs_gt := qs_mem 114 (by decide +kernel) (by decide +kernel)
theorem t_123 : Jvm.Cond.fieldLink "QuakeServer$Mover" (9 : Nat) "QuakeServer$Mover" "entities" "LQuakeServer$Entities;" ∈ qs_gt := qs_mem 123 (by decide +kernel) (by decide +kernel)
theorem t_124 : Jvm.Cond.fieldLink "QuakeServer$Mover" (15 : Nat) "QuakeServer$Mover" "walls" "LQuakeServer$Walls;" ∈ qs_gt := qs_mem 124 (by decide +kernel) (by decide +kernel)
theorem t_125 : Jvm.Cond.fieldLink "QuakeServer$Mover" (19 : Nat) "QuakeServer$Mover" "machine" "LQuakeServer$Machine;" ∈ qs_gt := qs_mem 125 (by decide +kernel) (by decide +kernel)
theorem t_126 : Jvm.Cond.fieldLink "QuakeServer$Mover" (54 : Nat) "QuakeServer$Mover" "hits" "I" ∈ qs_gt := qs_mem 126 (by decide +kernel) (by decide +kernel)
theorem t_128 : Jvm.Cond.fieldLink "QuakeServer$Mover" (77 : Nat) "QuakeServer$Mover" "reach" "I" ∈ qs_gt := qs_mem 128 (by decide +kernel) (by decide +kernel)
theorem t_129 : Jvm.Cond.fieldLink "QuakeServer$Mover" (80 : Nat) "QuakeServer$Mover" "met" "I" ∈ qs_gt := qs_mem 129 (by decide +kernel) (by decide +kernel)
theorem t_130 : Jvm.Cond.laysFinal "QuakeServer$Mover" "QuakeServer$Mover" "entities" "LQuakeServer$Entities;" ∈ qs_gt := qs_mem 130 (by decide +kernel) (by decide +kernel)
theorem t_132 : Jvm.Cond.laysFinal "QuakeServer$Mover" "QuakeServer$Mover" "walls" "LQuakeServer$Walls;" ∈ qs_gt := qs_mem 132 (by decide +kernel) (by decide +kernel)
theorem t_134 : Jvm.Cond.laysFinal "QuakeServer$Mover" "QuakeServer$Mover" "machine" "LQuakeServer$Machine;" ∈ qs_gt := qs_mem 134 (by decide +kernel) (by decide +kernel)
theorem t_136 : Jvm.Cond.lays "QuakeServer$Mover" "QuakeServer$Mover" "hits" "I" ∈ qs_gt := qs_mem 136 (by decide +kernel) (by decide +kernel)
theorem t_138 : Jvm.Cond.lays "QuakeServer$Mover" "QuakeServer$Mover" "reach" "I" ∈ qs_gt := qs_mem 138 (by decide +kernel) (by decide +kernel)
theorem t_140 : Jvm.Cond.lays "QuakeServer$Mover" "QuakeServer$Mover" "met" "I" ∈ qs_gt := qs_mem 140 (by decide +kernel) (by decide +kernel)
theorem t_149 : Jvm.Cond.fieldLink "QuakeServer$LastMessage" (15 : Nat) "QuakeServer$LastMessage" "entities" "LQuakeServer$Entities;" ∈ qs_gt := qs_mem 149 (by decide +kernel) (by decide +kernel)
theorem t_150 : Jvm.Cond.fieldLink "QuakeServer$LastMessage" (9 : Nat) "QuakeServer$LastMessage" "told" "[I" ∈ qs_gt := qs_mem 150 (by decide +kernel) (by decide +kernel)
theorem t_151 : Jvm.Cond.laysFinal "QuakeServer$LastMessage" "QuakeServer$LastMessage" "entities" "LQuakeServer$Entities;" ∈ qs_gt := qs_mem 151 (by decide +kernel) (by decide +kernel)
theorem t_153 : Jvm.Cond.laysFinal "QuakeServer$LastMessage" "QuakeServer$LastMessage" "told" "[I" ∈ qs_gt := qs_mem 153 (by decide +kernel) (by decide +kernel)
theorem t_156 : Jvm.Cond.fieldLink "QuakeServer" (12 : Nat) "QuakeServer" "entities" "LQuakeServer$Entities;" ∈ qs_gt := qs_mem 156 (by decide +kernel) (by decide +kernel)
theorem t_157 : Jvm.Cond.fieldLink "QuakeServer" (19 : Nat) "QuakeServer" "walls" "LQuakeServer$Walls;" ∈ qs_gt := qs_mem 157 (by decide +kernel) (by decide +kernel)
theorem t_158 : Jvm.Cond.fieldLink "QuakeServer" (26 : Nat) "QuakeServer" "program" "LQuakeServer$Program;" ∈ qs_gt := qs_mem 158 (by decide +kernel) (by decide +kernel)
theorem t_159 : Jvm.Cond.fieldLink "QuakeServer" (35 : Nat) "QuakeServer" "machine" "LQuakeServer$Machine;" ∈ qs_gt := qs_mem 159 (by decide +kernel) (by decide +kernel)
theorem t_160 : Jvm.Cond.fieldLink "QuakeServer" (44 : Nat) "QuakeServer" "mover" "LQuakeServer$Mover;" ∈ qs_gt := qs_mem 160 (by decide +kernel) (by decide +kernel)
theorem t_161 : Jvm.Cond.fieldLink "QuakeServer" (53 : Nat) "QuakeServer" "lastMessage" "LQuakeServer$LastMessage;" ∈ qs_gt := qs_mem 161 (by decide +kernel) (by decide +kernel)
theorem t_162 : Jvm.Cond.laysFinal "QuakeServer" "QuakeServer" "entities" "LQuakeServer$Entities;" ∈ qs_gt := qs_mem 162 (by decide +kernel) (by decide +kernel)
theorem t_164 : Jvm.Cond.laysFinal "QuakeServer" "QuakeServer" "walls" "LQuakeServer$Walls;" ∈ qs_gt := qs_mem 164 (by decide +kernel) (by decide +kernel)
theorem t_166 : Jvm.Cond.laysFinal "QuakeServer" "QuakeServer" "program" "LQuakeServer$Program;" ∈ qs_gt := qs_mem 166 (by decide +kernel) (by decide +kernel)
theorem t_168 : Jvm.Cond.laysFinal "QuakeServer" "QuakeServer" "machine" "LQuakeServer$Machine;" ∈ qs_gt := qs_mem 168 (by decide +kernel) (by decide +kernel)
theorem t_170 : Jvm.Cond.laysFinal "QuakeServer" "QuakeServer" "mover" "LQuakeServer$Mover;" ∈ qs_gt := qs_mem 170 (by decide +kernel) (by decide +kernel)
theorem t_172 : Jvm.Cond.laysFinal "QuakeServer" "QuakeServer" "lastMessage" "LQuakeServer$LastMessage;" ∈ qs_gt := qs_mem 172 (by decide +kernel) (by decide +kernel)
theorem t_179 : Jvm.Cond.methodLink "QuakeServer" (175 : Nat) ({ cls := "QuakeServer$LastMessage", name := "differences", desc := "()I" } : Jvm.MethodName) ∈ qs_gt := qs_mem 179 (by decide +kernel) (by decide +kernel)
theorem t_180 : Jvm.Cond.instanceMethod ({ cls := "QuakeServer$LastMessage", name := "differences", desc := "()I" } : Jvm.MethodName) ∈ qs_gt := qs_mem 180 (by decide +kernel) (by decide +kernel)
theorem t_181 : Jvm.Cond.selects "QuakeServer$LastMessage" ({ cls := "QuakeServer$LastMessage", name := "differences", desc := "()I" } : Jvm.MethodName) ({ cls := "QuakeServer$LastMessage", name := "differences", desc := "()I" } : Jvm.MethodName) ∈ qs_gt := qs_mem 181 (by decide +kernel) (by decide +kernel)
theorem t_182 : Jvm.Cond.code ({ cls := "QuakeServer$LastMessage", name := "differences", desc := "()I" } : Jvm.MethodName) prog_3_method_3_code (3 : Nat) (Option.some Jvm.ClassFile.FieldType.int) ∈ qs_gt := qs_mem 182 (by decide +kernel) (by decide +kernel)
theorem t_183 : Jvm.Cond.methodLink "QuakeServer$LastMessage" (29 : Nat) ({ cls := "QuakeServer$LastMessage", name := "now", desc := "(I)I" } : Jvm.MethodName) ∈ qs_gt := qs_mem 183 (by decide +kernel) (by decide +kernel)
theorem t_185 : Jvm.Cond.instanceMethod ({ cls := "QuakeServer$LastMessage", name := "now", desc := "(I)I" } : Jvm.MethodName) ∈ qs_gt := qs_mem 185 (by decide +kernel) (by decide +kernel)
theorem t_186 : Jvm.Cond.code ({ cls := "QuakeServer$LastMessage", name := "now", desc := "(I)I" } : Jvm.MethodName) prog_3_method_2_code (4 : Nat) (Option.some Jvm.ClassFile.FieldType.int) ∈ qs_gt := qs_mem 186 (by decide +kernel) (by decide +kernel)
theorem t_187 : Jvm.Cond.methodLink "QuakeServer$LastMessage" (19 : Nat) ({ cls := "QuakeServer$Entities", name := "isThere", desc := "(I)Z" } : Jvm.MethodName) ∈ qs_gt := qs_mem 187 (by decide +kernel) (by decide +kernel)
theorem t_188 : Jvm.Cond.instanceMethod ({ cls := "QuakeServer$Entities", name := "isThere", desc := "(I)Z" } : Jvm.MethodName) ∈ qs_gt := qs_mem 188 (by decide +kernel) (by decide +kernel)
theorem t_189 : Jvm.Cond.selects "QuakeServer$Entities" ({ cls := "QuakeServer$Entities", name := "isThere", desc := "(I)Z" } : Jvm.MethodName) ({ cls := "QuakeServer$Entities", name := "isThere", desc := "(I)Z" } : Jvm.MethodName) ∈ qs_gt := qs_mem 189 (by decide +kernel) (by decide +kernel)
theorem t_190 : Jvm.Cond.code ({ cls := "QuakeServer$Entities", name := "isThere", desc := "(I)Z" } : Jvm.MethodName) prog_2_method_2_code (2 : Nat) (Option.some Jvm.ClassFile.FieldType.boolean) ∈ qs_gt := qs_mem 190 (by decide +kernel) (by decide +kernel)
theorem t_191 : Jvm.Cond.methodLink "QuakeServer$LastMessage" (25 : Nat) ({ cls := "QuakeServer$Entities", name := "field", desc := "(II)I" } : Jvm.MethodName) ∈ qs_gt := qs_mem 191 (by decide +kernel) (by decide +kernel)
theorem t_192 : Jvm.Cond.instanceMethod ({ cls := "QuakeServer$Entities", name := "field", desc := "(II)I" } : Jvm.MethodName) ∈ qs_gt := qs_mem 192 (by decide +kernel) (by decide +kernel)
theorem t_193 : Jvm.Cond.selects "QuakeServer$Entities" ({ cls := "QuakeServer$Entities", name := "field", desc := "(II)I" } : Jvm.MethodName) ({ cls := "QuakeServer$Entities", name := "field", desc := "(II)I" } : Jvm.MethodName) ∈ qs_gt := qs_mem 193 (by decide +kernel) (by decide +kernel)
theorem t_194 : Jvm.Cond.code ({ cls := "QuakeServer$Entities", name := "field", desc := "(II)I" } : Jvm.MethodName) prog_2_method_7_code (3 : Nat) (Option.some Jvm.ClassFile.FieldType.int) ∈ qs_gt := qs_mem 194 (by decide +kernel) (by decide +kernel)
theorem t_199 : Jvm.Cond.methodLink "QuakeServer" (183 : Nat) ({ cls := "QuakeServer$LastMessage", name := "tellAll", desc := "()V" } : Jvm.MethodName) ∈ qs_gt := qs_mem 199 (by decide +kernel) (by decide +kernel)
theorem t_200 : Jvm.Cond.instanceMethod ({ cls := "QuakeServer$LastMessage", name := "tellAll", desc := "()V" } : Jvm.MethodName) ∈ qs_gt := qs_mem 200 (by decide +kernel) (by decide +kernel)
theorem t_201 : Jvm.Cond.selects "QuakeServer$LastMessage" ({ cls := "QuakeServer$LastMessage", name := "tellAll", desc := "()V" } : Jvm.MethodName) ({ cls := "QuakeServer$LastMessage", name := "tellAll", desc := "()V" } : Jvm.MethodName) ∈ qs_gt := qs_mem 201 (by decide +kernel) (by decide +kernel)
theorem t_202 : Jvm.Cond.code ({ cls := "QuakeServer$LastMessage", name := "tellAll", desc := "()V" } : Jvm.MethodName) prog_3_method_5_code (2 : Nat) (Option.none : Option Jvm.ClassFile.FieldType) ∈ qs_gt := qs_mem 202 (by decide +kernel) (by decide +kernel)
theorem t_212 : Jvm.Cond.methodLink "QuakeServer" (57 : Nat) ({ cls := "QuakeServer", name := "isInWorld", desc := "(I)Z" } : Jvm.MethodName) ∈ qs_gt := qs_mem 212 (by decide +kernel) (by decide +kernel)
theorem t_213 : Jvm.Cond.static ({ cls := "QuakeServer", name := "isInWorld", desc := "(I)Z" } : Jvm.MethodName) ∈ qs_gt := qs_mem 213 (by decide +kernel) (by decide +kernel)
theorem t_214 : Jvm.Cond.code ({ cls := "QuakeServer", name := "isInWorld", desc := "(I)Z" } : Jvm.MethodName) prog_1_method_18_code (1 : Nat) (Option.some Jvm.ClassFile.FieldType.boolean) ∈ qs_gt := qs_mem 214 (by decide +kernel) (by decide +kernel)
theorem t_215 : Jvm.Cond.classLink "QuakeServer" (61 : Nat) "java/lang/IllegalArgumentException" ∈ qs_gt := qs_mem 215 (by decide +kernel) (by decide +kernel)
theorem t_284 : Jvm.Cond.classLink "QuakeServer" (74 : Nat) "java/lang/IllegalStateException" ∈ qs_gt := qs_mem 284 (by decide +kernel) (by decide +kernel)
theorem t_300 : Jvm.Cond.methodLink "QuakeServer" (79 : Nat) ({ cls := "QuakeServer$Walls", name := "add", desc := "(IIII)I" } : Jvm.MethodName) ∈ qs_gt := qs_mem 300 (by decide +kernel) (by decide +kernel)
theorem t_301 : Jvm.Cond.instanceMethod ({ cls := "QuakeServer$Walls", name := "add", desc := "(IIII)I" } : Jvm.MethodName) ∈ qs_gt := qs_mem 301 (by decide +kernel) (by decide +kernel)
theorem t_302 : Jvm.Cond.selects "QuakeServer$Walls" ({ cls := "QuakeServer$Walls", name := "add", desc := "(IIII)I" } : Jvm.MethodName) ({ cls := "QuakeServer$Walls", name := "add", desc := "(IIII)I" } : Jvm.MethodName) ∈ qs_gt := qs_mem 302 (by decide +kernel) (by decide +kernel)
theorem t_303 : Jvm.Cond.code ({ cls := "QuakeServer$Walls", name := "add", desc := "(IIII)I" } : Jvm.MethodName) prog_7_method_2_code (5 : Nat) (Option.some Jvm.ClassFile.FieldType.int) ∈ qs_gt := qs_mem 303 (by decide +kernel) (by decide +kernel)
theorem t_311 : Jvm.Cond.methodLink "QuakeServer" (83 : Nat) ({ cls := "QuakeServer", name := "isBelow", desc := "(II)Z" } : Jvm.MethodName) ∈ qs_gt := qs_mem 311 (by decide +kernel) (by decide +kernel)
theorem t_312 : Jvm.Cond.static ({ cls := "QuakeServer", name := "isBelow", desc := "(II)Z" } : Jvm.MethodName) ∈ qs_gt := qs_mem 312 (by decide +kernel) (by decide +kernel)
theorem t_313 : Jvm.Cond.code ({ cls := "QuakeServer", name := "isBelow", desc := "(II)Z" } : Jvm.MethodName) prog_1_method_16_code (2 : Nat) (Option.some Jvm.ClassFile.FieldType.boolean) ∈ qs_gt := qs_mem 313 (by decide +kernel) (by decide +kernel)
theorem t_314 : Jvm.Cond.methodLink "QuakeServer" (87 : Nat) ({ cls := "QuakeServer$Program", name := "isSound", desc := "(IIII)Z" } : Jvm.MethodName) ∈ qs_gt := qs_mem 314 (by decide +kernel) (by decide +kernel)
theorem t_315 : Jvm.Cond.static ({ cls := "QuakeServer$Program", name := "isSound", desc := "(IIII)Z" } : Jvm.MethodName) ∈ qs_gt := qs_mem 315 (by decide +kernel) (by decide +kernel)
theorem t_316 : Jvm.Cond.code ({ cls := "QuakeServer$Program", name := "isSound", desc := "(IIII)Z" } : Jvm.MethodName) prog_6_method_2_code (4 : Nat) (Option.some Jvm.ClassFile.FieldType.boolean) ∈ qs_gt := qs_mem 316 (by decide +kernel) (by decide +kernel)
theorem t_319 : Jvm.Cond.methodLink "QuakeServer" (93 : Nat) ({ cls := "QuakeServer$Program", name := "length", desc := "(I)I" } : Jvm.MethodName) ∈ qs_gt := qs_mem 319 (by decide +kernel) (by decide +kernel)
theorem t_320 : Jvm.Cond.instanceMethod ({ cls := "QuakeServer$Program", name := "length", desc := "(I)I" } : Jvm.MethodName) ∈ qs_gt := qs_mem 320 (by decide +kernel) (by decide +kernel)
theorem t_321 : Jvm.Cond.selects "QuakeServer$Program" ({ cls := "QuakeServer$Program", name := "length", desc := "(I)I" } : Jvm.MethodName) ({ cls := "QuakeServer$Program", name := "length", desc := "(I)I" } : Jvm.MethodName) ∈ qs_gt := qs_mem 321 (by decide +kernel) (by decide +kernel)
theorem t_322 : Jvm.Cond.code ({ cls := "QuakeServer$Program", name := "length", desc := "(I)I" } : Jvm.MethodName) prog_6_method_3_code (2 : Nat) (Option.some Jvm.ClassFile.FieldType.int) ∈ qs_gt := qs_mem 322 (by decide +kernel) (by decide +kernel)
theorem t_324 : Jvm.Cond.methodLink "QuakeServer" (99 : Nat) ({ cls := "QuakeServer$Program", name := "add", desc := "(IIIII)I" } : Jvm.MethodName) ∈ qs_gt := qs_mem 324 (by decide +kernel) (by decide +kernel)
theorem t_325 : Jvm.Cond.instanceMethod ({ cls := "QuakeServer$Program", name := "add", desc := "(IIIII)I" } : Jvm.MethodName) ∈ qs_gt := qs_mem 325 (by decide +kernel) (by decide +kernel)
theorem t_326 : Jvm.Cond.selects "QuakeServer$Program" ({ cls := "QuakeServer$Program", name := "add", desc := "(IIIII)I" } : Jvm.MethodName) ({ cls := "QuakeServer$Program", name := "add", desc := "(IIIII)I" } : Jvm.MethodName) ∈ qs_gt := qs_mem 326 (by decide +kernel) (by decide +kernel)
theorem t_327 : Jvm.Cond.code ({ cls := "QuakeServer$Program", name := "add", desc := "(IIIII)I" } : Jvm.MethodName) prog_6_method_5_code (7 : Nat) (Option.some Jvm.ClassFile.FieldType.int) ∈ qs_gt := qs_mem 327 (by decide +kernel) (by decide +kernel)
theorem t_328 : Jvm.Cond.methodLink "QuakeServer$Program" (22 : Nat) ({ cls := "QuakeServer$Program", name := "firstPart", desc := "(II)I" } : Jvm.MethodName) ∈ qs_gt := qs_mem 328 (by decide +kernel) (by decide +kernel)
theorem t_329 : Jvm.Cond.instanceMethod ({ cls := "QuakeServer$Program", name := "firstPart", desc := "(II)I" } : Jvm.MethodName) ∈ qs_gt := qs_mem 329 (by decide +kernel) (by decide +kernel)
theorem t_330 : Jvm.Cond.selects "QuakeServer$Program" ({ cls := "QuakeServer$Program", name := "firstPart", desc := "(II)I" } : Jvm.MethodName) ({ cls := "QuakeServer$Program", name := "firstPart", desc := "(II)I" } : Jvm.MethodName) ∈ qs_gt := qs_mem 330 (by decide +kernel) (by decide +kernel)
theorem t_331 : Jvm.Cond.code ({ cls := "QuakeServer$Program", name := "firstPart", desc := "(II)I" } : Jvm.MethodName) prog_6_method_4_code (3 : Nat) (Option.some Jvm.ClassFile.FieldType.int) ∈ qs_gt := qs_mem 331 (by decide +kernel) (by decide +kernel)
theorem t_339 : Jvm.Cond.methodLink "QuakeServer" (102 : Nat) ({ cls := "QuakeServer", name := "isNumber", desc := "(D)Z" } : Jvm.MethodName) ∈ qs_gt := qs_mem 339 (by decide +kernel) (by decide +kernel)
theorem t_340 : Jvm.Cond.static ({ cls := "QuakeServer", name := "isNumber", desc := "(D)Z" } : Jvm.MethodName) ∈ qs_gt := qs_mem 340 (by decide +kernel) (by decide +kernel)
theorem t_341 : Jvm.Cond.code ({ cls := "QuakeServer", name := "isNumber", desc := "(D)Z" } : Jvm.MethodName) prog_1_method_19_code (2 : Nat) (Option.some Jvm.ClassFile.FieldType.boolean) ∈ qs_gt := qs_mem 341 (by decide +kernel) (by decide +kernel)
theorem t_342 : Jvm.Cond.constantDouble "QuakeServer" (203 : Nat) (13893604850437980160 : UInt64) ∈ qs_gt := qs_mem 342 (by decide +kernel) (by decide +kernel)
theorem t_343 : Jvm.Cond.constantDouble "QuakeServer" (205 : Nat) (4670232813583204352 : UInt64) ∈ qs_gt := qs_mem 343 (by decide +kernel) (by decide +kernel)
theorem t_345 : Jvm.Cond.methodLink "QuakeServer" (108 : Nat) ({ cls := "QuakeServer$Entities", name := "create", desc := "()I" } : Jvm.MethodName) ∈ qs_gt := qs_mem 345 (by decide +kernel) (by decide +kernel)
theorem t_346 : Jvm.Cond.instanceMethod ({ cls := "QuakeServer$Entities", name := "create", desc := "()I" } : Jvm.MethodName) ∈ qs_gt := qs_mem 346 (by decide +kernel) (by decide +kernel)
theorem t_347 : Jvm.Cond.selects "QuakeServer$Entities" ({ cls := "QuakeServer$Entities", name := "create", desc := "()I" } : Jvm.MethodName) ({ cls := "QuakeServer$Entities", name := "create", desc := "()I" } : Jvm.MethodName) ∈ qs_gt := qs_mem 347 (by decide +kernel) (by decide +kernel)
theorem t_348 : Jvm.Cond.code ({ cls := "QuakeServer$Entities", name := "create", desc := "()I" } : Jvm.MethodName) prog_2_method_4_code (2 : Nat) (Option.some Jvm.ClassFile.FieldType.int) ∈ qs_gt := qs_mem 348 (by decide +kernel) (by decide +kernel)
theorem t_350 : Jvm.Cond.methodLink "QuakeServer" (114 : Nat) ({ cls := "QuakeServer", name := "eighthsOf", desc := "(D)I" } : Jvm.MethodName) ∈ qs_gt := qs_mem 350 (by decide +kernel) (by decide +kernel)
theorem t_351 : Jvm.Cond.static ({ cls := "QuakeServer", name := "eighthsOf", desc := "(D)I" } : Jvm.MethodName) ∈ qs_gt := qs_mem 351 (by decide +kernel) (by decide +kernel)
theorem t_352 : Jvm.Cond.code ({ cls := "QuakeServer", name := "eighthsOf", desc := "(D)I" } : Jvm.MethodName) prog_1_method_20_code (3 : Nat) (Option.some Jvm.ClassFile.FieldType.int) ∈ qs_gt := qs_mem 352 (by decide +kernel) (by decide +kernel)
theorem t_353 : Jvm.Cond.constantDouble "QuakeServer" (207 : Nat) (4620693217682128896 : UInt64) ∈ qs_gt := qs_mem 353 (by decide +kernel) (by decide +kernel)
theorem t_354 : Jvm.Cond.methodLink "QuakeServer" (118 : Nat) ({ cls := "QuakeServer$Entities", name := "put", desc := "(III)V" } : Jvm.MethodName) ∈ qs_gt := qs_mem 354 (by decide +kernel) (by decide +kernel)
theorem t_355 : Jvm.Cond.instanceMethod ({ cls := "QuakeServer$Entities", name := "put", desc := "(III)V" } : Jvm.MethodName) ∈ qs_gt := qs_mem 355 (by decide +kernel) (by decide +kernel)
theorem t_356 : Jvm.Cond.selects "QuakeServer$Entities" ({ cls := "QuakeServer$Entities", name := "put", desc := "(III)V" } : Jvm.MethodName) ({ cls := "QuakeServer$Entities", name := "put", desc := "(III)V" } : Jvm.MethodName) ∈ qs_gt := qs_mem 356 (by decide +kernel) (by decide +kernel)
theorem t_357 : Jvm.Cond.code ({ cls := "QuakeServer$Entities", name := "put", desc := "(III)V" } : Jvm.MethodName) prog_2_method_9_code (4 : Nat) (Option.none : Option Jvm.ClassFile.FieldType) ∈ qs_gt := qs_mem 357 (by decide +kernel) (by decide +kernel)
theorem t_358 : Jvm.Cond.methodLink "QuakeServer$Entities" (19 : Nat) ({ cls := "QuakeServer$Entities", name := "isThere", desc := "(I)Z" } : Jvm.MethodName) ∈ qs_gt := qs_mem 358 (by decide +kernel) (by decide +kernel)
theorem t_367 : Jvm.Cond.methodLink "QuakeServer" (122 : Nat) ({ cls := "QuakeServer$Entities", name := "isThere", desc := "(I)Z" } : Jvm.MethodName) ∈ qs_gt := qs_mem 367 (by decide +kernel) (by decide +kernel)
theorem t_368 : Jvm.Cond.classLink "QuakeServer" (125 : Nat) "java/util/NoSuchElementException" ∈ qs_gt := qs_mem 368 (by decide +kernel) (by decide +kernel)
theorem t_384 : Jvm.Cond.methodLink "QuakeServer" (130 : Nat) ({ cls := "QuakeServer$Entities", name := "erase", desc := "(I)V" } : Jvm.MethodName) ∈ qs_gt := qs_mem 384 (by decide +kernel) (by decide +kernel)
theorem t_385 : Jvm.Cond.instanceMethod ({ cls := "QuakeServer$Entities", name := "erase", desc := "(I)V" } : Jvm.MethodName) ∈ qs_gt := qs_mem 385 (by decide +kernel) (by decide +kernel)
theorem t_386 : Jvm.Cond.selects "QuakeServer$Entities" ({ cls := "QuakeServer$Entities", name := "erase", desc := "(I)V" } : Jvm.MethodName) ({ cls := "QuakeServer$Entities", name := "erase", desc := "(I)V" } : Jvm.MethodName) ∈ qs_gt := qs_mem 386 (by decide +kernel) (by decide +kernel)
theorem t_387 : Jvm.Cond.code ({ cls := "QuakeServer$Entities", name := "erase", desc := "(I)V" } : Jvm.MethodName) prog_2_method_5_code (3 : Nat) (Option.none : Option Jvm.ClassFile.FieldType) ∈ qs_gt := qs_mem 387 (by decide +kernel) (by decide +kernel)
theorem t_396 : Jvm.Cond.methodLink "QuakeServer" (136 : Nat) ({ cls := "QuakeServer$Entities", name := "field", desc := "(II)I" } : Jvm.MethodName) ∈ qs_gt := qs_mem 396 (by decide +kernel) (by decide +kernel)
theorem t_397 : Jvm.Cond.methodLink "QuakeServer" (140 : Nat) ({ cls := "QuakeServer", name := "valueOf", desc := "(I)D" } : Jvm.MethodName) ∈ qs_gt := qs_mem 397 (by decide +kernel) (by decide +kernel)
theorem t_398 : Jvm.Cond.static ({ cls := "QuakeServer", name := "valueOf", desc := "(I)D" } : Jvm.MethodName) ∈ qs_gt := qs_mem 398 (by decide +kernel) (by decide +kernel)
theorem t_399 : Jvm.Cond.code ({ cls := "QuakeServer", name := "valueOf", desc := "(I)D" } : Jvm.MethodName) prog_1_method_21_code (1 : Nat) (Option.some Jvm.ClassFile.FieldType.double) ∈ qs_gt := qs_mem 399 (by decide +kernel) (by decide +kernel)
theorem t_415 : Jvm.Cond.constant "QuakeServer" (146 : Nat) (-131072 : Int32) ∈ qs_gt := qs_mem 415 (by decide +kernel) (by decide +kernel)
theorem t_416 : Jvm.Cond.constant "QuakeServer" (147 : Nat) (131072 : Int32) ∈ qs_gt := qs_mem 416 (by decide +kernel) (by decide +kernel)
theorem t_433 : Jvm.Cond.methodLink "QuakeServer" (156 : Nat) ({ cls := "QuakeServer", name := "isEntityOrWorld", desc := "(I)Z" } : Jvm.MethodName) ∈ qs_gt := qs_mem 433 (by decide +kernel) (by decide +kernel)
theorem t_434 : Jvm.Cond.static ({ cls := "QuakeServer", name := "isEntityOrWorld", desc := "(I)Z" } : Jvm.MethodName) ∈ qs_gt := qs_mem 434 (by decide +kernel) (by decide +kernel)
theorem t_435 : Jvm.Cond.code ({ cls := "QuakeServer", name := "isEntityOrWorld", desc := "(I)Z" } : Jvm.MethodName) prog_1_method_17_code (1 : Nat) (Option.some Jvm.ClassFile.FieldType.boolean) ∈ qs_gt := qs_mem 435 (by decide +kernel) (by decide +kernel)
theorem t_437 : Jvm.Cond.methodLink "QuakeServer" (161 : Nat) ({ cls := "QuakeServer$Machine", name := "start", desc := "(III)I" } : Jvm.MethodName) ∈ qs_gt := qs_mem 437 (by decide +kernel) (by decide +kernel)
theorem t_438 : Jvm.Cond.instanceMethod ({ cls := "QuakeServer$Machine", name := "start", desc := "(III)I" } : Jvm.MethodName) ∈ qs_gt := qs_mem 438 (by decide +kernel) (by decide +kernel)
theorem t_439 : Jvm.Cond.selects "QuakeServer$Machine" ({ cls := "QuakeServer$Machine", name := "start", desc := "(III)I" } : Jvm.MethodName) ({ cls := "QuakeServer$Machine", name := "start", desc := "(III)I" } : Jvm.MethodName) ∈ qs_gt := qs_mem 439 (by decide +kernel) (by decide +kernel)
theorem t_440 : Jvm.Cond.code ({ cls := "QuakeServer$Machine", name := "start", desc := "(III)I" } : Jvm.MethodName) prog_4_method_3_code (7 : Nat) (Option.some Jvm.ClassFile.FieldType.int) ∈ qs_gt := qs_mem 440 (by decide +kernel) (by decide +kernel)
theorem t_442 : Jvm.Cond.methodLink "QuakeServer$Machine" (44 : Nat) ({ cls := "QuakeServer$Machine", name := "perform", desc := "(I)I" } : Jvm.MethodName) ∈ qs_gt := qs_mem 442 (by decide +kernel) (by decide +kernel)
theorem t_444 : Jvm.Cond.instanceMethod ({ cls := "QuakeServer$Machine", name := "perform", desc := "(I)I" } : Jvm.MethodName) ∈ qs_gt := qs_mem 444 (by decide +kernel) (by decide +kernel)
theorem t_445 : Jvm.Cond.code ({ cls := "QuakeServer$Machine", name := "perform", desc := "(I)I" } : Jvm.MethodName) prog_4_method_4_code (3 : Nat) (Option.some Jvm.ClassFile.FieldType.int) ∈ qs_gt := qs_mem 445 (by decide +kernel) (by decide +kernel)
theorem t_446 : Jvm.Cond.methodLink "QuakeServer$Machine" (58 : Nat) ({ cls := "QuakeServer$Machine", name := "leaveEndedFunctions", desc := "()V" } : Jvm.MethodName) ∈ qs_gt := qs_mem 446 (by decide +kernel) (by decide +kernel)
theorem t_448 : Jvm.Cond.instanceMethod ({ cls := "QuakeServer$Machine", name := "leaveEndedFunctions", desc := "()V" } : Jvm.MethodName) ∈ qs_gt := qs_mem 448 (by decide +kernel) (by decide +kernel)
theorem t_449 : Jvm.Cond.code ({ cls := "QuakeServer$Machine", name := "leaveEndedFunctions", desc := "()V" } : Jvm.MethodName) prog_4_method_5_code (1 : Nat) (Option.none : Option Jvm.ClassFile.FieldType) ∈ qs_gt := qs_mem 449 (by decide +kernel) (by decide +kernel)
theorem t_450 : Jvm.Cond.methodLink "QuakeServer$Machine" (67 : Nat) ({ cls := "QuakeServer$Program", name := "length", desc := "(I)I" } : Jvm.MethodName) ∈ qs_gt := qs_mem 450 (by decide +kernel) (by decide +kernel)
theorem t_451 : Jvm.Cond.methodLink "QuakeServer$Machine" (61 : Nat) ({ cls := "QuakeServer$Machine", name := "step", desc := "()V" } : Jvm.MethodName) ∈ qs_gt := qs_mem 451 (by decide +kernel) (by decide +kernel)
theorem t_453 : Jvm.Cond.instanceMethod ({ cls := "QuakeServer$Machine", name := "step", desc := "()V" } : Jvm.MethodName) ∈ qs_gt := qs_mem 453 (by decide +kernel) (by decide +kernel)
theorem t_454 : Jvm.Cond.code ({ cls := "QuakeServer$Machine", name := "step", desc := "()V" } : Jvm.MethodName) prog_4_method_6_code (6 : Nat) (Option.none : Option Jvm.ClassFile.FieldType) ∈ qs_gt := qs_mem 454 (by decide +kernel) (by decide +kernel)
theorem t_455 : Jvm.Cond.methodLink "QuakeServer$Machine" (72 : Nat) ({ cls := "QuakeServer$Program", name := "firstPart", desc := "(II)I" } : Jvm.MethodName) ∈ qs_gt := qs_mem 455 (by decide +kernel) (by decide +kernel)
theorem t_457 : Jvm.Cond.static ({ cls := "QuakeServer", name := "wholeOf", desc := "(I)I" } : Jvm.MethodName) ∈ qs_gt := qs_mem 457 (by decide +kernel) (by decide +kernel)
theorem t_458 : Jvm.Cond.code ({ cls := "QuakeServer", name := "wholeOf", desc := "(I)I" } : Jvm.MethodName) prog_1_method_22_code (1 : Nat) (Option.some Jvm.ClassFile.FieldType.int) ∈ qs_gt := qs_mem 458 (by decide +kernel) (by decide +kernel)
theorem t_459 : Jvm.Cond.methodLink "QuakeServer$Machine" (82 : Nat) ({ cls := "QuakeServer$Entities", name := "put", desc := "(III)V" } : Jvm.MethodName) ∈ qs_gt := qs_mem 459 (by decide +kernel) (by decide +kernel)
theorem t_460 : Jvm.Cond.methodLink "QuakeServer$Machine" (88 : Nat) ({ cls := "QuakeServer$Machine", name := "enter", desc := "(I)V" } : Jvm.MethodName) ∈ qs_gt := qs_mem 460 (by decide +kernel) (by decide +kernel)
theorem t_462 : Jvm.Cond.instanceMethod ({ cls := "QuakeServer$Machine", name := "enter", desc := "(I)V" } : Jvm.MethodName) ∈ qs_gt := qs_mem 462 (by decide +kernel) (by decide +kernel)
theorem t_463 : Jvm.Cond.code ({ cls := "QuakeServer$Machine", name := "enter", desc := "(I)V" } : Jvm.MethodName) prog_4_method_7_code (2 : Nat) (Option.none : Option Jvm.ClassFile.FieldType) ∈ qs_gt := qs_mem 463 (by decide +kernel) (by decide +kernel)
theorem t_464 : Jvm.Cond.methodLink "QuakeServer$Machine" (92 : Nat) ({ cls := "QuakeServer$Entities", name := "erase", desc := "(I)V" } : Jvm.MethodName) ∈ qs_gt := qs_mem 464 (by decide +kernel) (by decide +kernel)
theorem t_465 : Jvm.Cond.methodLink "QuakeServer$Machine" (95 : Nat) ({ cls := "QuakeServer$Machine", name := "result", desc := "(III)I" } : Jvm.MethodName) ∈ qs_gt := qs_mem 465 (by decide +kernel) (by decide +kernel)
theorem t_467 : Jvm.Cond.instanceMethod ({ cls := "QuakeServer$Machine", name := "result", desc := "(III)I" } : Jvm.MethodName) ∈ qs_gt := qs_mem 467 (by decide +kernel) (by decide +kernel)
theorem t_468 : Jvm.Cond.code ({ cls := "QuakeServer$Machine", name := "result", desc := "(III)I" } : Jvm.MethodName) prog_4_method_8_code (4 : Nat) (Option.some Jvm.ClassFile.FieldType.int) ∈ qs_gt := qs_mem 468 (by decide +kernel) (by decide +kernel)
theorem t_470 : Jvm.Cond.static ({ cls := "QuakeServer", name := "inRange", desc := "(J)I" } : Jvm.MethodName) ∈ qs_gt := qs_mem 470 (by decide +kernel) (by decide +kernel)
theorem t_471 : Jvm.Cond.code ({ cls := "QuakeServer", name := "inRange", desc := "(J)I" } : Jvm.MethodName) prog_1_method_23_code (2 : Nat) (Option.some Jvm.ClassFile.FieldType.int) ∈ qs_gt := qs_mem 471 (by decide +kernel) (by decide +kernel)
theorem t_472 : Jvm.Cond.constantLong "QuakeServer" (209 : Nat) (131072 : Int64) ∈ qs_gt := qs_mem 472 (by decide +kernel) (by decide +kernel)
theorem t_473 : Jvm.Cond.constantLong "QuakeServer" (211 : Nat) (-131072 : Int64) ∈ qs_gt := qs_mem 473 (by decide +kernel) (by decide +kernel)
theorem t_474 : Jvm.Cond.constantLong "QuakeServer$Machine" (99 : Nat) (8 : Int64) ∈ qs_gt := qs_mem 474 (by decide +kernel) (by decide +kernel)
theorem t_475 : Jvm.Cond.methodLink "QuakeServer$Machine" (101 : Nat) ({ cls := "java/lang/Math", name := "floorDiv", desc := "(JJ)J" } : Jvm.MethodName) ∈ qs_gt := qs_mem 475 (by decide +kernel) (by decide +kernel)
theorem t_476 : Jvm.Cond.static ({ cls := "java/lang/Math", name := "floorDiv", desc := "(JJ)J" } : Jvm.MethodName) ∈ qs_gt := qs_mem 476 (by decide +kernel) (by decide +kernel)
theorem t_477 : Jvm.Cond.code ({ cls := "java/lang/Math", name := "floorDiv", desc := "(JJ)J" } : Jvm.MethodName) prog_13_method_49_code (6 : Nat) (Option.some Jvm.ClassFile.FieldType.long) ∈ qs_gt := qs_mem 477 (by decide +kernel) (by decide +kernel)
theorem t_478 : Jvm.Cond.methodLink "QuakeServer$Machine" (107 : Nat) ({ cls := "QuakeServer$Entities", name := "field", desc := "(II)I" } : Jvm.MethodName) ∈ qs_gt := qs_mem 478 (by decide +kernel) (by decide +kernel)
theorem t_479 : Jvm.Cond.methodLink "QuakeServer$Machine" (110 : Nat) ({ cls := "QuakeServer$Entities", name := "create", desc := "()I" } : Jvm.MethodName) ∈ qs_gt := qs_mem 479 (by decide +kernel) (by decide +kernel)
theorem t_480 : Jvm.Cond.methodLink "QuakeServer$Machine" (114 : Nat) ({ cls := "QuakeServer$Entities", name := "firstBehind", desc := "(I)I" } : Jvm.MethodName) ∈ qs_gt := qs_mem 480 (by decide +kernel) (by decide +kernel)
theorem t_481 : Jvm.Cond.instanceMethod ({ cls := "QuakeServer$Entities", name := "firstBehind", desc := "(I)I" } : Jvm.MethodName) ∈ qs_gt := qs_mem 481 (by decide +kernel) (by decide +kernel)
theorem t_482 : Jvm.Cond.selects "QuakeServer$Entities" ({ cls := "QuakeServer$Entities", name := "firstBehind", desc := "(I)I" } : Jvm.MethodName) ({ cls := "QuakeServer$Entities", name := "firstBehind", desc := "(I)I" } : Jvm.MethodName) ∈ qs_gt := qs_mem 482 (by decide +kernel) (by decide +kernel)
theorem t_483 : Jvm.Cond.code ({ cls := "QuakeServer$Entities", name := "firstBehind", desc := "(I)I" } : Jvm.MethodName) prog_2_method_6_code (3 : Nat) (Option.some Jvm.ClassFile.FieldType.int) ∈ qs_gt := qs_mem 483 (by decide +kernel) (by decide +kernel)
theorem t_484 : Jvm.Cond.methodLink "QuakeServer$Machine" (117 : Nat) ({ cls := "QuakeServer$Machine", name := "draw", desc := "()I" } : Jvm.MethodName) ∈ qs_gt := qs_mem 484 (by decide +kernel) (by decide +kernel)
theorem t_486 : Jvm.Cond.instanceMethod ({ cls := "QuakeServer$Machine", name := "draw", desc := "()I" } : Jvm.MethodName) ∈ qs_gt := qs_mem 486 (by decide +kernel) (by decide +kernel)
theorem t_487 : Jvm.Cond.code ({ cls := "QuakeServer$Machine", name := "draw", desc := "()I" } : Jvm.MethodName) prog_4_method_9_code (1 : Nat) (Option.some Jvm.ClassFile.FieldType.int) ∈ qs_gt := qs_mem 487 (by decide +kernel) (by decide +kernel)
theorem t_488 : Jvm.Cond.constantLong "QuakeServer$Machine" (120 : Nat) (1103515245 : Int64) ∈ qs_gt := qs_mem 488 (by decide +kernel) (by decide +kernel)
theorem t_489 : Jvm.Cond.constantLong "QuakeServer$Machine" (122 : Nat) (12345 : Int64) ∈ qs_gt := qs_mem 489 (by decide +kernel) (by decide +kernel)
theorem t_490 : Jvm.Cond.constantLong "QuakeServer$Machine" (124 : Nat) (2147483648 : Int64) ∈ qs_gt := qs_mem 490 (by decide +kernel) (by decide +kernel)
theorem t_491 : Jvm.Cond.constant "QuakeServer$Machine" (126 : Nat) (65536 : Int32) ∈ qs_gt := qs_mem 491 (by decide +kernel) (by decide +kernel)
theorem t_500 : Jvm.Cond.methodLink "QuakeServer" (167 : Nat) ({ cls := "QuakeServer$Machine", name := "advanceTime", desc := "()V" } : Jvm.MethodName) ∈ qs_gt := qs_mem 500 (by decide +kernel) (by decide +kernel)
theorem t_501 : Jvm.Cond.instanceMethod ({ cls := "QuakeServer$Machine", name := "advanceTime", desc := "()V" } : Jvm.MethodName) ∈ qs_gt := qs_mem 501 (by decide +kernel) (by decide +kernel)
theorem t_502 : Jvm.Cond.selects "QuakeServer$Machine" ({ cls := "QuakeServer$Machine", name := "advanceTime", desc := "()V" } : Jvm.MethodName) ({ cls := "QuakeServer$Machine", name := "advanceTime", desc := "()V" } : Jvm.MethodName) ∈ qs_gt := qs_mem 502 (by decide +kernel) (by decide +kernel)
theorem t_503 : Jvm.Cond.code ({ cls := "QuakeServer$Machine", name := "advanceTime", desc := "()V" } : Jvm.MethodName) prog_4_method_2_code (1 : Nat) (Option.none : Option Jvm.ClassFile.FieldType) ∈ qs_gt := qs_mem 503 (by decide +kernel) (by decide +kernel)
theorem t_504 : Jvm.Cond.methodLink "QuakeServer" (170 : Nat) ({ cls := "QuakeServer$Mover", name := "takeTurn", desc := "(I)V" } : Jvm.MethodName) ∈ qs_gt := qs_mem 504 (by decide +kernel) (by decide +kernel)
theorem t_505 : Jvm.Cond.instanceMethod ({ cls := "QuakeServer$Mover", name := "takeTurn", desc := "(I)V" } : Jvm.MethodName) ∈ qs_gt := qs_mem 505 (by decide +kernel) (by decide +kernel)
theorem t_506 : Jvm.Cond.selects "QuakeServer$Mover" ({ cls := "QuakeServer$Mover", name := "takeTurn", desc := "(I)V" } : Jvm.MethodName) ({ cls := "QuakeServer$Mover", name := "takeTurn", desc := "(I)V" } : Jvm.MethodName) ∈ qs_gt := qs_mem 506 (by decide +kernel) (by decide +kernel)
theorem t_507 : Jvm.Cond.code ({ cls := "QuakeServer$Mover", name := "takeTurn", desc := "(I)V" } : Jvm.MethodName) prog_5_method_2_code (3 : Nat) (Option.none : Option Jvm.ClassFile.FieldType) ∈ qs_gt := qs_mem 507 (by decide +kernel) (by decide +kernel)
theorem t_508 : Jvm.Cond.methodLink "QuakeServer$Mover" (23 : Nat) ({ cls := "QuakeServer$Entities", name := "wholeField", desc := "(II)I" } : Jvm.MethodName) ∈ qs_gt := qs_mem 508 (by decide +kernel) (by decide +kernel)
theorem t_509 : Jvm.Cond.instanceMethod ({ cls := "QuakeServer$Entities", name := "wholeField", desc := "(II)I" } : Jvm.MethodName) ∈ qs_gt := qs_mem 509 (by decide +kernel) (by decide +kernel)
theorem t_510 : Jvm.Cond.selects "QuakeServer$Entities" ({ cls := "QuakeServer$Entities", name := "wholeField", desc := "(II)I" } : Jvm.MethodName) ({ cls := "QuakeServer$Entities", name := "wholeField", desc := "(II)I" } : Jvm.MethodName) ∈ qs_gt := qs_mem 510 (by decide +kernel) (by decide +kernel)
theorem t_511 : Jvm.Cond.code ({ cls := "QuakeServer$Entities", name := "wholeField", desc := "(II)I" } : Jvm.MethodName) prog_2_method_8_code (3 : Nat) (Option.some Jvm.ClassFile.FieldType.int) ∈ qs_gt := qs_mem 511 (by decide +kernel) (by decide +kernel)
theorem t_512 : Jvm.Cond.methodLink "QuakeServer$Entities" (23 : Nat) ({ cls := "QuakeServer$Entities", name := "field", desc := "(II)I" } : Jvm.MethodName) ∈ qs_gt := qs_mem 512 (by decide +kernel) (by decide +kernel)
theorem t_514 : Jvm.Cond.methodLink "QuakeServer$Mover" (29 : Nat) ({ cls := "QuakeServer$Entities", name := "field", desc := "(II)I" } : Jvm.MethodName) ∈ qs_gt := qs_mem 514 (by decide +kernel) (by decide +kernel)
theorem t_516 : Jvm.Cond.methodLink "QuakeServer$Mover" (36 : Nat) ({ cls := "QuakeServer$Entities", name := "put", desc := "(III)V" } : Jvm.MethodName) ∈ qs_gt := qs_mem 516 (by decide +kernel) (by decide +kernel)
theorem t_517 : Jvm.Cond.methodLink "QuakeServer$Mover" (40 : Nat) ({ cls := "QuakeServer$Mover", name := "travel", desc := "(II)V" } : Jvm.MethodName) ∈ qs_gt := qs_mem 517 (by decide +kernel) (by decide +kernel)
theorem t_519 : Jvm.Cond.instanceMethod ({ cls := "QuakeServer$Mover", name := "travel", desc := "(II)V" } : Jvm.MethodName) ∈ qs_gt := qs_mem 519 (by decide +kernel) (by decide +kernel)
theorem t_520 : Jvm.Cond.code ({ cls := "QuakeServer$Mover", name := "travel", desc := "(II)V" } : Jvm.MethodName) prog_5_method_3_code (4 : Nat) (Option.none : Option Jvm.ClassFile.FieldType) ∈ qs_gt := qs_mem 520 (by decide +kernel) (by decide +kernel)
theorem t_521 : Jvm.Cond.methodLink "QuakeServer$Mover" (51 : Nat) ({ cls := "QuakeServer$Mover", name := "go", desc := "(II)I" } : Jvm.MethodName) ∈ qs_gt := qs_mem 521 (by decide +kernel) (by decide +kernel)
theorem t_523 : Jvm.Cond.instanceMethod ({ cls := "QuakeServer$Mover", name := "go", desc := "(II)I" } : Jvm.MethodName) ∈ qs_gt := qs_mem 523 (by decide +kernel) (by decide +kernel)
theorem t_524 : Jvm.Cond.code ({ cls := "QuakeServer$Mover", name := "go", desc := "(II)I" } : Jvm.MethodName) prog_5_method_4_code (7 : Nat) (Option.some Jvm.ClassFile.FieldType.int) ∈ qs_gt := qs_mem 524 (by decide +kernel) (by decide +kernel)
theorem t_525 : Jvm.Cond.methodLink "QuakeServer$Mover" (68 : Nat) ({ cls := "java/lang/Math", name := "floorDiv", desc := "(II)I" } : Jvm.MethodName) ∈ qs_gt := qs_mem 525 (by decide +kernel) (by decide +kernel)
theorem t_526 : Jvm.Cond.static ({ cls := "java/lang/Math", name := "floorDiv", desc := "(II)I" } : Jvm.MethodName) ∈ qs_gt := qs_mem 526 (by decide +kernel) (by decide +kernel)
theorem t_527 : Jvm.Cond.code ({ cls := "java/lang/Math", name := "floorDiv", desc := "(II)I" } : Jvm.MethodName) prog_13_method_47_code (3 : Nat) (Option.some Jvm.ClassFile.FieldType.int) ∈ qs_gt := qs_mem 527 (by decide +kernel) (by decide +kernel)
theorem t_528 : Jvm.Cond.methodLink "QuakeServer$Mover" (73 : Nat) ({ cls := "java/lang/Math", name := "abs", desc := "(I)I" } : Jvm.MethodName) ∈ qs_gt := qs_mem 528 (by decide +kernel) (by decide +kernel)
theorem t_529 : Jvm.Cond.static ({ cls := "java/lang/Math", name := "abs", desc := "(I)I" } : Jvm.MethodName) ∈ qs_gt := qs_mem 529 (by decide +kernel) (by decide +kernel)
theorem t_530 : Jvm.Cond.code ({ cls := "java/lang/Math", name := "abs", desc := "(I)I" } : Jvm.MethodName) prog_13_method_59_code (1 : Nat) (Option.some Jvm.ClassFile.FieldType.int) ∈ qs_gt := qs_mem 530 (by decide +kernel) (by decide +kernel)
theorem t_531 : Jvm.Cond.methodLink "QuakeServer$Mover" (83 : Nat) ({ cls := "QuakeServer$Mover", name := "meetWalls", desc := "(IIZ)V" } : Jvm.MethodName) ∈ qs_gt := qs_mem 531 (by decide +kernel) (by decide +kernel)
theorem t_533 : Jvm.Cond.instanceMethod ({ cls := "QuakeServer$Mover", name := "meetWalls", desc := "(IIZ)V" } : Jvm.MethodName) ∈ qs_gt := qs_mem 533 (by decide +kernel) (by decide +kernel)
theorem t_534 : Jvm.Cond.code ({ cls := "QuakeServer$Mover", name := "meetWalls", desc := "(IIZ)V" } : Jvm.MethodName) prog_5_method_5_code (9 : Nat) (Option.none : Option Jvm.ClassFile.FieldType) ∈ qs_gt := qs_mem 534 (by decide +kernel) (by decide +kernel)
theorem t_535 : Jvm.Cond.methodLink "QuakeServer$Mover" (90 : Nat) ({ cls := "QuakeServer$Entities", name := "low", desc := "(II)I" } : Jvm.MethodName) ∈ qs_gt := qs_mem 535 (by decide +kernel) (by decide +kernel)
theorem t_536 : Jvm.Cond.instanceMethod ({ cls := "QuakeServer$Entities", name := "low", desc := "(II)I" } : Jvm.MethodName) ∈ qs_gt := qs_mem 536 (by decide +kernel) (by decide +kernel)
theorem t_537 : Jvm.Cond.selects "QuakeServer$Entities" ({ cls := "QuakeServer$Entities", name := "low", desc := "(II)I" } : Jvm.MethodName) ({ cls := "QuakeServer$Entities", name := "low", desc := "(II)I" } : Jvm.MethodName) ∈ qs_gt := qs_mem 537 (by decide +kernel) (by decide +kernel)
theorem t_538 : Jvm.Cond.code ({ cls := "QuakeServer$Entities", name := "low", desc := "(II)I" } : Jvm.MethodName) prog_2_method_10_code (3 : Nat) (Option.some Jvm.ClassFile.FieldType.int) ∈ qs_gt := qs_mem 538 (by decide +kernel) (by decide +kernel)
theorem t_539 : Jvm.Cond.methodLink "QuakeServer$Entities" (31 : Nat) ({ cls := "QuakeServer$Entities", name := "sizeUsed", desc := "(I)I" } : Jvm.MethodName) ∈ qs_gt := qs_mem 539 (by decide +kernel) (by decide +kernel)
theorem t_541 : Jvm.Cond.instanceMethod ({ cls := "QuakeServer$Entities", name := "sizeUsed", desc := "(I)I" } : Jvm.MethodName) ∈ qs_gt := qs_mem 541 (by decide +kernel) (by decide +kernel)
theorem t_542 : Jvm.Cond.code ({ cls := "QuakeServer$Entities", name := "sizeUsed", desc := "(I)I" } : Jvm.MethodName) prog_2_method_12_code (3 : Nat) (Option.some Jvm.ClassFile.FieldType.int) ∈ qs_gt := qs_mem 542 (by decide +kernel) (by decide +kernel)
theorem t_543 : Jvm.Cond.methodLink "QuakeServer$Entities" (34 : Nat) ({ cls := "java/lang/Math", name := "min", desc := "(II)I" } : Jvm.MethodName) ∈ qs_gt := qs_mem 543 (by decide +kernel) (by decide +kernel)
theorem t_544 : Jvm.Cond.static ({ cls := "java/lang/Math", name := "min", desc := "(II)I" } : Jvm.MethodName) ∈ qs_gt := qs_mem 544 (by decide +kernel) (by decide +kernel)
theorem t_545 : Jvm.Cond.code ({ cls := "java/lang/Math", name := "min", desc := "(II)I" } : Jvm.MethodName) prog_13_method_69_code (2 : Nat) (Option.some Jvm.ClassFile.FieldType.int) ∈ qs_gt := qs_mem 545 (by decide +kernel) (by decide +kernel)
theorem t_546 : Jvm.Cond.methodLink "QuakeServer$Entities" (39 : Nat) ({ cls := "java/lang/Math", name := "max", desc := "(II)I" } : Jvm.MethodName) ∈ qs_gt := qs_mem 546 (by decide +kernel) (by decide +kernel)
theorem t_547 : Jvm.Cond.static ({ cls := "java/lang/Math", name := "max", desc := "(II)I" } : Jvm.MethodName) ∈ qs_gt := qs_mem 547 (by decide +kernel) (by decide +kernel)
theorem t_548 : Jvm.Cond.code ({ cls := "java/lang/Math", name := "max", desc := "(II)I" } : Jvm.MethodName) prog_13_method_65_code (2 : Nat) (Option.some Jvm.ClassFile.FieldType.int) ∈ qs_gt := qs_mem 548 (by decide +kernel) (by decide +kernel)
theorem t_549 : Jvm.Cond.methodLink "QuakeServer$Mover" (93 : Nat) ({ cls := "QuakeServer$Entities", name := "high", desc := "(II)I" } : Jvm.MethodName) ∈ qs_gt := qs_mem 549 (by decide +kernel) (by decide +kernel)
theorem t_550 : Jvm.Cond.instanceMethod ({ cls := "QuakeServer$Entities", name := "high", desc := "(II)I" } : Jvm.MethodName) ∈ qs_gt := qs_mem 550 (by decide +kernel) (by decide +kernel)
theorem t_551 : Jvm.Cond.selects "QuakeServer$Entities" ({ cls := "QuakeServer$Entities", name := "high", desc := "(II)I" } : Jvm.MethodName) ({ cls := "QuakeServer$Entities", name := "high", desc := "(II)I" } : Jvm.MethodName) ∈ qs_gt := qs_mem 551 (by decide +kernel) (by decide +kernel)
theorem t_552 : Jvm.Cond.code ({ cls := "QuakeServer$Entities", name := "high", desc := "(II)I" } : Jvm.MethodName) prog_2_method_11_code (3 : Nat) (Option.some Jvm.ClassFile.FieldType.int) ∈ qs_gt := qs_mem 552 (by decide +kernel) (by decide +kernel)
theorem t_553 : Jvm.Cond.methodLink "QuakeServer$Mover" (101 : Nat) ({ cls := "QuakeServer$Walls", name := "high", desc := "(II)I" } : Jvm.MethodName) ∈ qs_gt := qs_mem 553 (by decide +kernel) (by decide +kernel)
theorem t_554 : Jvm.Cond.instanceMethod ({ cls := "QuakeServer$Walls", name := "high", desc := "(II)I" } : Jvm.MethodName) ∈ qs_gt := qs_mem 554 (by decide +kernel) (by decide +kernel)
theorem t_555 : Jvm.Cond.selects "QuakeServer$Walls" ({ cls := "QuakeServer$Walls", name := "high", desc := "(II)I" } : Jvm.MethodName) ({ cls := "QuakeServer$Walls", name := "high", desc := "(II)I" } : Jvm.MethodName) ∈ qs_gt := qs_mem 555 (by decide +kernel) (by decide +kernel)
theorem t_556 : Jvm.Cond.code ({ cls := "QuakeServer$Walls", name := "high", desc := "(II)I" } : Jvm.MethodName) prog_7_method_4_code (3 : Nat) (Option.some Jvm.ClassFile.FieldType.int) ∈ qs_gt := qs_mem 556 (by decide +kernel) (by decide +kernel)
theorem t_557 : Jvm.Cond.methodLink "QuakeServer$Mover" (102 : Nat) ({ cls := "QuakeServer$Walls", name := "low", desc := "(II)I" } : Jvm.MethodName) ∈ qs_gt := qs_mem 557 (by decide +kernel) (by decide +kernel)
theorem t_558 : Jvm.Cond.instanceMethod ({ cls := "QuakeServer$Walls", name := "low", desc := "(II)I" } : Jvm.MethodName) ∈ qs_gt := qs_mem 558 (by decide +kernel) (by decide +kernel)
theorem t_559 : Jvm.Cond.selects "QuakeServer$Walls" ({ cls := "QuakeServer$Walls", name := "low", desc := "(II)I" } : Jvm.MethodName) ({ cls := "QuakeServer$Walls", name := "low", desc := "(II)I" } : Jvm.MethodName) ∈ qs_gt := qs_mem 559 (by decide +kernel) (by decide +kernel)
theorem t_560 : Jvm.Cond.code ({ cls := "QuakeServer$Walls", name := "low", desc := "(II)I" } : Jvm.MethodName) prog_7_method_3_code (3 : Nat) (Option.some Jvm.ClassFile.FieldType.int) ∈ qs_gt := qs_mem 560 (by decide +kernel) (by decide +kernel)
theorem t_561 : Jvm.Cond.methodLink "QuakeServer$Mover" (103 : Nat) ({ cls := "QuakeServer$Mover", name := "meet", desc := "(II)V" } : Jvm.MethodName) ∈ qs_gt := qs_mem 561 (by decide +kernel) (by decide +kernel)
theorem t_563 : Jvm.Cond.instanceMethod ({ cls := "QuakeServer$Mover", name := "meet", desc := "(II)V" } : Jvm.MethodName) ∈ qs_gt := qs_mem 563 (by decide +kernel) (by decide +kernel)
theorem t_564 : Jvm.Cond.code ({ cls := "QuakeServer$Mover", name := "meet", desc := "(II)V" } : Jvm.MethodName) prog_5_method_8_code (3 : Nat) (Option.none : Option Jvm.ClassFile.FieldType) ∈ qs_gt := qs_mem 564 (by decide +kernel) (by decide +kernel)
theorem t_565 : Jvm.Cond.methodLink "QuakeServer$Mover" (87 : Nat) ({ cls := "QuakeServer$Mover", name := "meetEntities", desc := "(IIZ)V" } : Jvm.MethodName) ∈ qs_gt := qs_mem 565 (by decide +kernel) (by decide +kernel)
theorem t_567 : Jvm.Cond.instanceMethod ({ cls := "QuakeServer$Mover", name := "meetEntities", desc := "(IIZ)V" } : Jvm.MethodName) ∈ qs_gt := qs_mem 567 (by decide +kernel) (by decide +kernel)
theorem t_568 : Jvm.Cond.code ({ cls := "QuakeServer$Mover", name := "meetEntities", desc := "(IIZ)V" } : Jvm.MethodName) prog_5_method_6_code (6 : Nat) (Option.none : Option Jvm.ClassFile.FieldType) ∈ qs_gt := qs_mem 568 (by decide +kernel) (by decide +kernel)
theorem t_569 : Jvm.Cond.methodLink "QuakeServer$Mover" (106 : Nat) ({ cls := "QuakeServer$Mover", name := "mayBlock", desc := "(II)Z" } : Jvm.MethodName) ∈ qs_gt := qs_mem 569 (by decide +kernel) (by decide +kernel)
theorem t_571 : Jvm.Cond.instanceMethod ({ cls := "QuakeServer$Mover", name := "mayBlock", desc := "(II)Z" } : Jvm.MethodName) ∈ qs_gt := qs_mem 571 (by decide +kernel) (by decide +kernel)
theorem t_572 : Jvm.Cond.code ({ cls := "QuakeServer$Mover", name := "mayBlock", desc := "(II)Z" } : Jvm.MethodName) prog_5_method_7_code (3 : Nat) (Option.some Jvm.ClassFile.FieldType.boolean) ∈ qs_gt := qs_mem 572 (by decide +kernel) (by decide +kernel)
theorem t_573 : Jvm.Cond.methodLink "QuakeServer$Mover" (110 : Nat) ({ cls := "QuakeServer$Entities", name := "boxesOverlap", desc := "(III)Z" } : Jvm.MethodName) ∈ qs_gt := qs_mem 573 (by decide +kernel) (by decide +kernel)
theorem t_574 : Jvm.Cond.instanceMethod ({ cls := "QuakeServer$Entities", name := "boxesOverlap", desc := "(III)Z" } : Jvm.MethodName) ∈ qs_gt := qs_mem 574 (by decide +kernel) (by decide +kernel)
theorem t_575 : Jvm.Cond.selects "QuakeServer$Entities" ({ cls := "QuakeServer$Entities", name := "boxesOverlap", desc := "(III)Z" } : Jvm.MethodName) ({ cls := "QuakeServer$Entities", name := "boxesOverlap", desc := "(III)Z" } : Jvm.MethodName) ∈ qs_gt := qs_mem 575 (by decide +kernel) (by decide +kernel)
theorem t_576 : Jvm.Cond.code ({ cls := "QuakeServer$Entities", name := "boxesOverlap", desc := "(III)Z" } : Jvm.MethodName) prog_2_method_13_code (5 : Nat) (Option.some Jvm.ClassFile.FieldType.boolean) ∈ qs_gt := qs_mem 576 (by decide +kernel) (by decide +kernel)
theorem t_577 : Jvm.Cond.methodLink "QuakeServer$Entities" (42 : Nat) ({ cls := "java/lang/Math", name := "abs", desc := "(I)I" } : Jvm.MethodName) ∈ qs_gt := qs_mem 577 (by decide +kernel) (by decide +kernel)
theorem t_578 : Jvm.Cond.methodLink "QuakeServer$Mover" (58 : Nat) ({ cls := "QuakeServer$Machine", name := "start", desc := "(III)I" } : Jvm.MethodName) ∈ qs_gt := qs_mem 578 (by decide +kernel) (by decide +kernel)
theorem t_579 : Jvm.Cond.methodLink "QuakeServer$Mover" (64 : Nat) ({ cls := "QuakeServer$Entities", name := "isThere", desc := "(I)Z" } : Jvm.MethodName) ∈ qs_gt := qs_mem 579 (by decide +kernel) (by decide +kernel)
theorem t_580 : Jvm.Cond.methodLink "QuakeServer$Mover" (44 : Nat) ({ cls := "QuakeServer$Mover", name := "touchTriggers", desc := "(I)V" } : Jvm.MethodName) ∈ qs_gt := qs_mem 580 (by decide +kernel) (by decide +kernel)
theorem t_582 : Jvm.Cond.instanceMethod ({ cls := "QuakeServer$Mover", name := "touchTriggers", desc := "(I)V" } : Jvm.MethodName) ∈ qs_gt := qs_mem 582 (by decide +kernel) (by decide +kernel)
theorem t_583 : Jvm.Cond.code ({ cls := "QuakeServer$Mover", name := "touchTriggers", desc := "(I)V" } : Jvm.MethodName) prog_5_method_9_code (3 : Nat) (Option.none : Option Jvm.ClassFile.FieldType) ∈ qs_gt := qs_mem 583 (by decide +kernel) (by decide +kernel)
theorem t_584 : Jvm.Cond.methodLink "QuakeServer$Mover" (48 : Nat) ({ cls := "QuakeServer$Mover", name := "think", desc := "(I)V" } : Jvm.MethodName) ∈ qs_gt := qs_mem 584 (by decide +kernel) (by decide +kernel)
theorem t_586 : Jvm.Cond.instanceMethod ({ cls := "QuakeServer$Mover", name := "think", desc := "(I)V" } : Jvm.MethodName) ∈ qs_gt := qs_mem 586 (by decide +kernel) (by decide +kernel)
theorem t_587 : Jvm.Cond.code ({ cls := "QuakeServer$Mover", name := "think", desc := "(I)V" } : Jvm.MethodName) prog_5_method_10_code (3 : Nat) (Option.none : Option Jvm.ClassFile.FieldType) ∈ qs_gt := qs_mem 587 (by decide +kernel) (by decide +kernel)
theorem t_588 : Jvm.Cond.methodLink "QuakeServer" (173 : Nat) ({ cls := "QuakeServer$Entities", name := "number", desc := "()I" } : Jvm.MethodName) ∈ qs_gt := qs_mem 588 (by decide +kernel) (by decide +kernel)
theorem t_589 : Jvm.Cond.instanceMethod ({ cls := "QuakeServer$Entities", name := "number", desc := "()I" } : Jvm.MethodName) ∈ qs_gt := qs_mem 589 (by decide +kernel) (by decide +kernel)
theorem t_590 : Jvm.Cond.selects "QuakeServer$Entities" ({ cls := "QuakeServer$Entities", name := "number", desc := "()I" } : Jvm.MethodName) ({ cls := "QuakeServer$Entities", name := "number", desc := "()I" } : Jvm.MethodName) ∈ qs_gt := qs_mem 590 (by decide +kernel) (by decide +kernel)
theorem t_591 : Jvm.Cond.code ({ cls := "QuakeServer$Entities", name := "number", desc := "()I" } : Jvm.MethodName) prog_2_method_3_code (3 : Nat) (Option.some Jvm.ClassFile.FieldType.int) ∈ qs_gt := qs_mem 591 (by decide +kernel) (by decide +kernel)
theorem t_599 : Jvm.Cond.methodLink "QuakeServer" (178 : Nat) ({ cls := "QuakeServer$LastMessage", name := "difference", desc := "(I)I" } : Jvm.MethodName) ∈ qs_gt := qs_mem 599 (by decide +kernel) (by decide +kernel)
theorem t_600 : Jvm.Cond.instanceMethod ({ cls := "QuakeServer$LastMessage", name := "difference", desc := "(I)I" } : Jvm.MethodName) ∈ qs_gt := qs_mem 600 (by decide +kernel) (by decide +kernel)
theorem t_601 : Jvm.Cond.selects "QuakeServer$LastMessage" ({ cls := "QuakeServer$LastMessage", name := "difference", desc := "(I)I" } : Jvm.MethodName) ({ cls := "QuakeServer$LastMessage", name := "difference", desc := "(I)I" } : Jvm.MethodName) ∈ qs_gt := qs_mem 601 (by decide +kernel) (by decide +kernel)
theorem t_602 : Jvm.Cond.code ({ cls := "QuakeServer$LastMessage", name := "difference", desc := "(I)I" } : Jvm.MethodName) prog_3_method_4_code (4 : Nat) (Option.some Jvm.ClassFile.FieldType.int) ∈ qs_gt := qs_mem 602 (by decide +kernel) (by decide +kernel)
theorem tp_0 : Cond.selects "QuakeServer$LastMessage" ⟨"QuakeServer$LastMessage", "now", "(I)I"⟩ ⟨"QuakeServer$LastMessage", "now", "(I)I"⟩ ∈ qs_gt := qs_memp 0 (by decide +kernel) (by decide +kernel)
theorem tp_2 : Cond.selects "QuakeServer$Machine" ⟨"QuakeServer$Machine", "perform", "(I)I"⟩ ⟨"QuakeServer$Machine", "perform", "(I)I"⟩ ∈ qs_gt := qs_memp 2 (by decide +kernel) (by decide +kernel)
theorem tp_3 : Cond.selects "QuakeServer$Machine" ⟨"QuakeServer$Machine", "leaveEndedFunctions", "()V"⟩ ⟨"QuakeServer$Machine", "leaveEndedFunctions", "()V"⟩ ∈ qs_gt := qs_memp 3 (by decide +kernel) (by decide +kernel)
theorem tp_4 : Cond.selects "QuakeServer$Machine" ⟨"QuakeServer$Machine", "step", "()V"⟩ ⟨"QuakeServer$Machine", "step", "()V"⟩ ∈ qs_gt := qs_memp 4 (by decide +kernel) (by decide +kernel)
theorem tp_5 : Cond.selects "QuakeServer$Machine" ⟨"QuakeServer$Machine", "enter", "(I)V"⟩ ⟨"QuakeServer$Machine", "enter", "(I)V"⟩ ∈ qs_gt := qs_memp 5 (by decide +kernel) (by decide +kernel)
theorem tp_6 : Cond.selects "QuakeServer$Machine" ⟨"QuakeServer$Machine", "result", "(III)I"⟩ ⟨"QuakeServer$Machine", "result", "(III)I"⟩ ∈ qs_gt := qs_memp 6 (by decide +kernel) (by decide +kernel)
theorem tp_7 : Cond.selects "QuakeServer$Machine" ⟨"QuakeServer$Machine", "draw", "()I"⟩ ⟨"QuakeServer$Machine", "draw", "()I"⟩ ∈ qs_gt := qs_memp 7 (by decide +kernel) (by decide +kernel)
theorem tp_8 : Cond.selects "QuakeServer$Mover" ⟨"QuakeServer$Mover", "travel", "(II)V"⟩ ⟨"QuakeServer$Mover", "travel", "(II)V"⟩ ∈ qs_gt := qs_memp 8 (by decide +kernel) (by decide +kernel)
theorem tp_9 : Cond.selects "QuakeServer$Mover" ⟨"QuakeServer$Mover", "go", "(II)I"⟩ ⟨"QuakeServer$Mover", "go", "(II)I"⟩ ∈ qs_gt := qs_memp 9 (by decide +kernel) (by decide +kernel)
theorem tp_10 : Cond.selects "QuakeServer$Mover" ⟨"QuakeServer$Mover", "meetWalls", "(IIZ)V"⟩ ⟨"QuakeServer$Mover", "meetWalls", "(IIZ)V"⟩ ∈ qs_gt := qs_memp 10 (by decide +kernel) (by decide +kernel)
theorem tp_11 : Cond.selects "QuakeServer$Entities" ⟨"QuakeServer$Entities", "sizeUsed", "(I)I"⟩ ⟨"QuakeServer$Entities", "sizeUsed", "(I)I"⟩ ∈ qs_gt := qs_memp 11 (by decide +kernel) (by decide +kernel)
theorem tp_12 : Cond.selects "QuakeServer$Mover" ⟨"QuakeServer$Mover", "meet", "(II)V"⟩ ⟨"QuakeServer$Mover", "meet", "(II)V"⟩ ∈ qs_gt := qs_memp 12 (by decide +kernel) (by decide +kernel)
theorem tp_13 : Cond.selects "QuakeServer$Mover" ⟨"QuakeServer$Mover", "meetEntities", "(IIZ)V"⟩ ⟨"QuakeServer$Mover", "meetEntities", "(IIZ)V"⟩ ∈ qs_gt := qs_memp 13 (by decide +kernel) (by decide +kernel)
theorem tp_14 : Cond.selects "QuakeServer$Mover" ⟨"QuakeServer$Mover", "mayBlock", "(II)Z"⟩ ⟨"QuakeServer$Mover", "mayBlock", "(II)Z"⟩ ∈ qs_gt := qs_memp 14 (by decide +kernel) (by decide +kernel)
theorem tp_15 : Cond.selects "QuakeServer$Mover" ⟨"QuakeServer$Mover", "touchTriggers", "(I)V"⟩ ⟨"QuakeServer$Mover", "touchTriggers", "(I)V"⟩ ∈ qs_gt := qs_memp 15 (by decide +kernel) (by decide +kernel)
theorem tp_16 : Cond.selects "QuakeServer$Mover" ⟨"QuakeServer$Mover", "think", "(I)V"⟩ ⟨"QuakeServer$Mover", "think", "(I)V"⟩ ∈ qs_gt := qs_memp 16 (by decide +kernel) (by decide +kernel)
theorem in_E : ∀ w ∈ u_ws R_E T_E 2, w ∈ qs_gt := List.forall_mem_cons.mpr ⟨t_32, List.forall_mem_cons.mpr ⟨t_34, fun _ h => absurd h List.not_mem_nil⟩⟩
theorem in_W : ∀ w ∈ u_ws R_W T_W 3, w ∈ qs_gt := List.forall_mem_cons.mpr ⟨t_50, List.forall_mem_cons.mpr ⟨t_52, List.forall_mem_cons.mpr ⟨t_54, fun _ h => absurd h List.not_mem_nil⟩⟩⟩
theorem in_P : ∀ w ∈ u_ws R_P T_P 2, w ∈ qs_gt := List.forall_mem_cons.mpr ⟨t_66, List.forall_mem_cons.mpr ⟨t_68, fun _ h => absurd h List.not_mem_nil⟩⟩
theorem in_M : ∀ w ∈ u_ws R_M T_M 11, w ∈ qs_gt := List.forall_mem_cons.mpr ⟨t_94, List.forall_mem_cons.mpr ⟨t_96, List.forall_mem_cons.mpr ⟨t_98, List.forall_mem_cons.mpr ⟨t_100, List.forall_mem_cons.mpr ⟨t_102, List.forall_mem_cons.mpr ⟨t_104, List.forall_mem_cons.mpr ⟨t_106, List.forall_mem_cons.mpr ⟨t_108, List.forall_mem_cons.mpr ⟨t_110, List.forall_mem_cons.mpr ⟨t_112, List.forall_mem_cons.mpr ⟨t_114, fun _ h => absurd h List.not_mem_nil⟩⟩⟩⟩⟩⟩⟩⟩⟩⟩⟩
theorem in_V : ∀ w ∈ u_ws R_V T_V 6, w ∈ qs_gt := List.forall_mem_cons.mpr ⟨t_130, List.forall_mem_cons.mpr ⟨t_132, List.forall_mem_cons.mpr ⟨t_134, List.forall_mem_cons.mpr ⟨t_136, List.forall_mem_cons.mpr ⟨t_138, List.forall_mem_cons.mpr ⟨t_140, fun _ h => absurd h List.not_mem_nil⟩⟩⟩⟩⟩⟩
theorem in_L : ∀ w ∈ u_ws R_L T_L 2, w ∈ qs_gt := List.forall_mem_cons.mpr ⟨t_151, List.forall_mem_cons.mpr ⟨t_153, fun _ h => absurd h List.not_mem_nil⟩⟩
theorem in_Q : ∀ w ∈ u_ws R_Q T_Q 6, w ∈ qs_gt := List.forall_mem_cons.mpr ⟨t_162, List.forall_mem_cons.mpr ⟨t_164, List.forall_mem_cons.mpr ⟨t_166, List.forall_mem_cons.mpr ⟨t_168, List.forall_mem_cons.mpr ⟨t_170, List.forall_mem_cons.mpr ⟨t_172, fun _ h => absurd h List.not_mem_nil⟩⟩⟩⟩⟩⟩
end
section
/-! ===== BEGIN words of one list among another's, by their places ===== -/
theorem goodIn_r {big : List Cond} (ws : List Cond) (ps : List Nat) (hp : ws = ps.filterMap (fun i => big[i]?)) (h : ws.all goodWord = true) : GoodIn big ws := by
  intro w hw
  have h1 := List.all_eq_true.mp h w hw
  rw [hp] at hw
  obtain ⟨i, -, hi⟩ := List.mem_filterMap.mp hw
  have hm : w ∈ big := by first | exact List.mem_of_getElem? hi | exact List.getElem?_mem hi
  exact ⟨hm, good_of_word h1⟩
theorem goodIn_app {big a b : List Cond} (ha : GoodIn big a) (hb : GoodIn big b) : GoodIn big (a ++ b) := fun w h => (List.mem_append.mp h).elim (ha w) (hb w)
theorem goodIn_ca {big a b : List Cond} {c : Cond} (ha : GoodIn big (c :: a)) (hb : GoodIn big b) : GoodIn big (c :: (a ++ b)) := fun w h => (List.mem_cons.mp h).elim (fun e => ha w (List.mem_cons.mpr (Or.inl e))) (fun h => (List.mem_append.mp h).elim (fun h => ha w (List.mem_cons.mpr (Or.inr h))) (hb w))
theorem goodIn_sub {big ws : List Cond} (hm : ∀ w ∈ ws, w ∈ big) (h : ws.all goodWord = true) : GoodIn big ws := fun w hw => ⟨hm w hw, good_of_word (List.all_eq_true.mp h w hw)⟩
/-! ===== END ===== -/

/-! ===== BEGIN exceptions that leave a method, and their catching by the caller (launches without stack traces) ===== -/
section VXA
/-! The laws vx_back, vx_callV, vx_callS, vx_callSW, vx_throw0, vx_throwS follow proofs of the library, with one case more: JvmDerived/Free/Laws.lean (Back.of_free), Shelf42/LK1.lean (callV, callS), Shelf/KitTraced.lean (throwNew0V, throwNewS). -/
/-- where a method has thrown q: the class by its name, the cell, what was written, the world -/
def vx_T (XC : String → State → State → Prop) (st : State) (q : Addr) (t : State) (mc ms : Nat) (free : Addr → Prop) : Prop :=
  ∃ (E : String) (ce : Cell) (L : List Loc), XC E st t ∧ t.heap[q]? = some ce ∧ ce.vm = .none ∧ st.vm.findClass E = some ce.cls ∧ st.WarmedH t.vm ∧ st.sameButNew ({ t with vm := st.vm } : State) L mc ms ∧ ∀ z ∈ L, free z.base
def vx_Q (Qc : Array Value → State → Outcome → State → Prop) (XC : String → State → State → Prop) (mc ms : Nat) (free : Addr → Prop) : Array Value → State → Outcome → State → Prop := fun a st o t =>
  (Qc a st o t ∧ ∃ L, FrameEnd st o t L mc ms ∧ ∀ q ∈ L, free q.base) ∨ ∃ q, o = .threw q ∧ vx_T XC st q t mc ms free
/-- a callee that returns or throws -/
def vx_Met (l : Launch) (y : MethodName) (ws : List Cond) (rm : Room) (Pc : Array Value → State → Prop) (Qc : Array Value → State → Outcome → State → Prop) (XC : String → State → State → Prop) (mc ms : Nat) (free : Addr → Prop) : Prop :=
  MetFree l y (headSpec ws rm) Pc (fun _ _ _ _ _ => True) (vx_Q Qc XC mc ms free)
def vx_Post (XC : String → State → State → Prop) (mc ms : Nat) (free : Addr → Prop) : Pt → Array Value → Addr → Pt → Prop := fun A a q B =>
  ∃ (g : JFrame) (mk : MethodId) (t : State) (L : List Loc) (E : String) (ce : Cell), B.U.heap = t.heap ∧ B.U.vm = t.vm ∧ XC E (A.U.calling g mk a) t ∧ t.heap[q]? = some ce ∧ ce.vm = .none ∧ A.U.vm.findClass E = some ce.cls ∧ B.locs = A.locs ++ L ∧ (∀ z ∈ L, free z.base) ∧ B.cells = A.cells + mc ∧ B.slots = A.slots + ms
def vx_Back (l : Launch) (R : Room) (p : Program) (e : Env) (below : List Frame) (s : State) (sargs : Array Value) (y : MethodName) (len W9 : Nat)
    (Pre : Pt → Array Value → Prop) (Post : Pt → Array Value → Option Value → Pt → Prop) (PostX : Pt → Array Value → Addr → Pt → Prop) : Prop :=
  ∀ (m : MethodId) (meth : Method) (c : Code) (A : Pt) (g : JFrame) (ig : Instr) (mk : MethodId) (a : Array Value),
    Stand p l e R s m sargs below meth c A.U A.locs A.cells A.slots → g.method = m → g.locals.size = c.maxLocals → decode c.code g.pc = .ok (ig, len) →
    2 * g.monitorRoom + (g.stack.map fun v => v.category).sum ≤ W9 → A.U.methodNamed? y = some mk → Pre A a →
    (∃ (v : Option Value) (B : Pt), Stand p l e R s m sargs below meth c B.U B.locs B.cells B.slots ∧ Post A a v B ∧
      Steps p.tables e below (doInvoke e (A.U.setTop g) [] mk a).1 (B.U.setTop { g with pc := g.pc + len, stack := v.toList ++ g.stack })) ∨
    (∃ (q : Addr) (B : Pt), Stand p l e R s m sargs below meth c B.U B.locs B.cells B.slots ∧ PostX A a q B ∧
      Steps p.tables e below (doInvoke e (A.U.setTop g) [] mk a).1 ((B.U.setTop g).pushFrame (.throwing q)))
section Payer
variable {l : Launch} {R : Room} {p : Program} {e : Env} {below : List Frame} {s : State} {sargs : Array Value} {y : MethodName} {len W9 : Nat}
theorem vx_back {ws : List Cond} {rm : Room} {Pc : Array Value → State → Prop} {Qc : Array Value → State → Outcome → State → Prop} {XC : String → State → State → Prop} {mc ms : Nat} {free : Addr → Prop} {bytes : ByteArray} {maxL : Nat} {ret : Option FieldType}
    (hM : vx_Met l y ws rm Pc Qc XC mc ms free) (hblind : FrameBlind Pc) (hrc : rm.cells = mc) (hrs : rm.slots = ms)
    (hframes : rm.frames + 1 ≤ R.frames) (hlocals : W9 + (maxL + 11) + rm.locals ≤ R.locals)
    (hws : ∀ w ∈ ws, ∀ a' U, s.WarmedH U.vm → w.before a' U = true) (hcode : Cond.code y bytes maxL ret ∈ ws) (hinit : ∀ a' U, s.WarmedH U.vm → (Cond.initialized y.cls).before a' U = true) :
    vx_Back l R p e below s sargs y len W9 (PreOf R mc ms Pc) (PostOf Qc mc ms free) (vx_Post XC mc ms free) := by
  intro m meth c A g ig mk a X hg hsize hdg hW hn hp
  have h1 : (headSpec ws rm).pre.before a A.U = true := atoms_intro fun w hw => hws w hw _ _ X.warmed
  have h2 : (Cond.code y bytes maxL ret).before a A.U = true := hws _ hcode _ _ X.warmed
  have h3 : (Cond.initialized y.cls).before a A.U = true := hinit _ _ X.warmed
  have h4 : A.cells + (headSpec ws rm).room.cells ≤ R.cells := by rw [show (headSpec ws rm).room.cells = mc from hrc]; exact hp.1
  have h5 : A.slots + (headSpec ws rm).room.slots ≤ R.slots := by rw [show (headSpec ws rm).room.slots = ms from hrs]; exact hp.2.1
  have hPc : Pc a (A.U.calling g mk a) := hblind _ _ _ _ hp.2.2
  obtain ⟨U, Ls, c0, s0⟩ := A
  dsimp only [Pt.U, Pt.locs, Pt.cells, Pt.slots] at h1 h2 h3 h4 h5 X hn hPc ⊢
  obtain ⟨methY, cY, hmY, hcY, -, hlY, -, -, -, -⟩ := Cond.code_spec hn h2
  obtain ⟨kY, hkY, -⟩ := className_of_methodNamed hn
  have hinitY : kY.init = .initialized := Cond.initialized_spec (findClass_of_methodNamed hn) hkY h3
  have h : At U g.method c below := by rw [hg]; exact X.here
  have hlocals9 : W9 + (maxL + 11) + (headSpec ws rm).room.locals ≤ R.locals := hlocals
  have happ : (headSpec ws rm).appliesLoose y e.platform (U.calling g mk a) = true :=
    Spec.appliesLoose_calling (g := g) h hdg hn hkY hinitY
      (X.room_calling (g := g) (R' := (headSpec ws rm).room) hsize hmY hcY hframes (by rw [hlY]; omega) h4 h5) h1
  obtain ⟨mid, hmid⟩ := h.above
  have hfr : (U.setTop g).frames = (.java g :: mid) ++ below := by rw [State.frames_setTop' g h.top, hmid]; rfl
  obtain ⟨o, s₂, hsteps, -, hend, hq⟩ := Steps.callFree hM p X.admits X.cas X.clock (acts := []) hfr happ hPc trivial
  have hq' : vx_Q Qc XC mc ms free a (U.calling g mk a) o s₂ := hq
  rw [State.frames_setTop' g h.top] at hend
  obtain ⟨g₀, hg0⟩ := Option.isSome_iff_exists.mp h.top
  obtain ⟨r, hr⟩ := State.topJava?_eq_some.mp hg0
  have hr' : (({ U with heap := s₂.heap, slotsUsed := s₂.slotsUsed } : State).setVm s₂.vm).frames = .java g₀ :: r := hr
  rcases hq' with ⟨hqc, L, hfe, hL⟩ | ⟨q, rfl, E, ce, L, hx, hce, hcv, hcl, hW₂, hsm, hL⟩
  · obtain ⟨⟨v, rfl⟩, hW₂, e2, q2, q3, q4, q5, q6⟩ := id hfe
    have e3 : s₂ = ({ (U.calling g mk a).setFrames s₂.frames with heap := s₂.heap, slotsUsed := s₂.slotsUsed } : State).setVm s₂.vm := by
      have : s₂ = ({ s₂ with vm := (U.calling g mk a).vm } : State).setVm s₂.vm := rfl
      rw [e2] at this
      exact this
    obtain ⟨c₂, i₂, len₂, hc₂, hd₂, hf₂⟩ := hend
    have hW' : U.WarmedH s₂.vm := hW₂
    have hcc : c₂ = c := by
      have h1 : s₂.code? g.method = U.code? g.method := by
        rw [State.code?_eq, State.code?_eq, hW'.alike.method?]
      exact Option.some.inj (hc₂.symm.trans (h1.trans h.code))
    subst hcc
    have hlen : len₂ = len := by rw [hdg] at hd₂; cases hd₂; rfl
    subst hlen
    have hs₂ : s₂ = (({ U with heap := s₂.heap, slotsUsed := s₂.slotsUsed } : State).setVm s₂.vm).setTop { g with pc := g.pc + len₂, stack := v.toList ++ g.stack } := by
      refine e3.trans ?_
      rw [hf₂, State.calling_eq h.top, State.setFrames_setFrames, State.setTop_of_frames _ hr', hr]
      rfl
    have hsame : U.sameButNew ({ U with heap := s₂.heap, slotsUsed := s₂.slotsUsed } : State) L mc ms := by
      refine ⟨?_, q2, q3, q4, q5, q6⟩
      obtain ⟨t, ht, -⟩ := State.frames_cons hr
      show ({ U with heap := s₂.heap, slotsUsed := s₂.slotsUsed } : State) = { U.setFrames U.frames with heap := s₂.heap, slotsUsed := s₂.slotsUsed }
      rw [State.setFrames_self ht]
    subst hg
    refine Or.inl ⟨v, ⟨(({ U with heap := s₂.heap, slotsUsed := s₂.slotsUsed } : State).setVm s₂.vm), Ls ++ L, c0 + mc, s0 + ms⟩,
      ⟨X.admits, X.cas, X.clock, X.frames, X.room, X.hears, X.method, X.code, (X.here.setHeapUsed s₂.heap s₂.slotsUsed).setVm hW'.alike, X.tail, State.WarmedH.trans X.warmed hW', X.limits, X.bytes, X.same.trans (hsame.setVm s.vm)⟩,
      ⟨g, mk, s₂, L, rfl, rfl, hqc, rfl, hL, rfl, rfl⟩, ?_⟩
    show Steps p.tables e below _ ((({ U with heap := s₂.heap, slotsUsed := s₂.slotsUsed } : State).setVm s₂.vm).setTop { g with pc := g.pc + len₂, stack := v.toList ++ g.stack })
    rw [← hs₂]
    exact hsteps
  · obtain ⟨e2, q2, q3, q4, q5, q6⟩ := id hsm
    have e3 : s₂ = ({ (U.calling g mk a).setFrames s₂.frames with heap := s₂.heap, slotsUsed := s₂.slotsUsed } : State).setVm s₂.vm := by
      have : s₂ = ({ s₂ with vm := (U.calling g mk a).vm } : State).setVm s₂.vm := rfl
      rw [e2] at this
      exact this
    have hf₂ : s₂.frames = .throwing q :: .java g :: U.frames.tail := hend
    have hW' : U.WarmedH s₂.vm := hW₂
    have hs₂ : s₂ = ((({ U with heap := s₂.heap, slotsUsed := s₂.slotsUsed } : State).setVm s₂.vm).setTop g).pushFrame (.throwing q) := by
      refine e3.trans ?_
      rw [hf₂, State.calling_eq h.top, State.setFrames_setFrames, State.pushFrame, State.frames_setTop _ hr', State.setTop_of_frames _ hr', State.setFrames_setFrames, hr]
      rfl
    have hsame : U.sameButNew ({ U with heap := s₂.heap, slotsUsed := s₂.slotsUsed } : State) L mc ms := by
      refine ⟨?_, q2, q3, q4, q5, q6⟩
      obtain ⟨t, ht, -⟩ := State.frames_cons hr
      show ({ U with heap := s₂.heap, slotsUsed := s₂.slotsUsed } : State) = { U.setFrames U.frames with heap := s₂.heap, slotsUsed := s₂.slotsUsed }
      rw [State.setFrames_self ht]
    subst hg
    refine Or.inr ⟨q, ⟨(({ U with heap := s₂.heap, slotsUsed := s₂.slotsUsed } : State).setVm s₂.vm), Ls ++ L, c0 + mc, s0 + ms⟩,
      ⟨X.admits, X.cas, X.clock, X.frames, X.room, X.hears, X.method, X.code, (X.here.setHeapUsed s₂.heap s₂.slotsUsed).setVm hW'.alike, X.tail, State.WarmedH.trans X.warmed hW', X.limits, X.bytes, X.same.trans (hsame.setVm s.vm)⟩,
      ⟨g, mk, s₂, L, E, ce, rfl, rfl, hx, hce, hcv, hcl, rfl, hL, rfl, rfl⟩, ?_⟩
    show Steps p.tables e below _ (((({ U with heap := s₂.heap, slotsUsed := s₂.slotsUsed } : State).setVm s₂.vm).setTop g).pushFrame (.throwing q))
    rw [← hs₂]
    exact hsteps
end Payer
section Calls
variable {p : Program} {l : Launch} {e : Env} {R : Room} {s : State} {m : MethodId} {args : Array Value} {below : List Frame} {meth : Method} {c : Code} {T : State} {locs : List Loc} {cells slots : Nat}
theorem vx_callV (X : Stand p l e R s m args below meth c T locs cells slots) (hexec : p.tables.exec = Jvm.exec) {own C : String} {index : Nat} {y : MethodName} {bytes : ByteArray} {maxL : Nat} {ret : Option FieldType}
    (hown : s.vm.findClass own = some m.cls) (hlink : (Cond.methodLink own index y).before args s = true) (hinst : (Cond.instanceMethod y).before args s = true) (hsel : (Cond.selects C y y).before args s = true)
    (hcode : (Cond.code y bytes maxL ret).before args s = true) (hy : y.cls ≠ "java/lang/invoke/MethodHandle" ∧ y.cls ≠ "java/lang/invoke/VarHandle")
    {W9 : Nat} {Pre : Pt → Array Value → Prop} {Post : Pt → Array Value → Option Value → Pt → Prop} {PostX : Pt → Array Value → Addr → Pt → Prop} (hK : vx_Back l R p e below s args y 3 W9 Pre Post PostX)
    {b : Addr} {cellB : Cell} (hcell : T.heap[b]? = some cellB) (hobj : cellB.vm.isStatics = false) (hcls : s.vm.findClass C = some cellB.cls)
    {g : JFrame} (hg : g.method = m) (hsize : g.locals.size = c.maxLocals) {argsL rest : List Value} (hlen : ∀ sig, parseMethodDescriptor y.desc = some sig → argsL.length = sig.parameters.length)
    (hstack : g.stack = argsL.reverse ++ .ref b :: rest) (hW : 2 * g.monitorRoom + (rest.map fun v => v.category).sum ≤ W9) (hdg : decode c.code g.pc = .ok (.invokevirtual index, 3))
    (hpre : ∀ vm₁, s.WarmedH vm₁ → Pre ⟨T.setVm vm₁, locs, cells, slots⟩ (Value.ref b :: argsL).toArray) :
    (∃ (v : Option Value) (vm₁ : Vm) (B : Pt), s.WarmedH vm₁ ∧ Stand p l e R s m args below meth c B.U B.locs B.cells B.slots ∧ Post ⟨T.setVm vm₁, locs, cells, slots⟩ (Value.ref b :: argsL).toArray v B ∧
      ∀ target, Steps p.tables e below (B.U.setTop { g with pc := g.pc + 3, stack := v.toList ++ rest }) target → Steps p.tables e below (T.setTop g) target) ∨
    (∃ (q : Addr) (vm₁ : Vm) (B : Pt), s.WarmedH vm₁ ∧ Stand p l e R s m args below meth c B.U B.locs B.cells B.slots ∧ PostX ⟨T.setVm vm₁, locs, cells, slots⟩ (Value.ref b :: argsL).toArray q B ∧
      Steps p.tables e below (T.setTop g) ((B.U.setTop { g with stack := rest }).pushFrame (.throwing q))) := by
  obtain ⟨mk, methM, hnamed, hmethM, hstM, habM⟩ := Cond.instanceMethod_spec hinst
  obtain ⟨methM', cM, hmethM', -, -, -, -, -, -, hsigM⟩ := Cond.code_spec hnamed hcode
  cases hmethM.symm.trans hmethM'
  obtain ⟨c2, r2, m2, q1, q2, q3, q4, kP, hkP, hkPi⟩ := Cond.selects_spec hsel
  cases hcls.symm.trans q1
  cases (State.methodFound?_of_named hnamed hy).symm.trans q2
  cases hnamed.symm.trans q3
  have hselP : selectMethod e.platform s.vm cellB.cls mk = .method mk := by rw [Launch.admits_selectMethod X.admits]; exact q4
  obtain ⟨vm₁, X₁, hstep₁⟩ := X.invokevirtual hexec hown hlink hnamed hmethM hstM hkP hkPi hy (a := b) (cell := cellB) hcell
    (fun z h => by rw [h] at hobj; cases hobj) hselP hmethM habM hkP hkPi (g := g) hg (argsL := argsL) (rest := rest) (hlen _ hsigM) hstack hdg
  rcases hK m meth c ⟨T.setVm vm₁, locs, cells, slots⟩ { g with stack := rest } (.invokevirtual index) mk (Value.ref b :: argsL).toArray X₁ hg hsize hdg hW (X₁.named hnamed) (hpre vm₁ X₁.warmed) with ⟨v, B, X', hpost, hsteps⟩ | ⟨q, B, X', hpost, hsteps⟩
  · exact Or.inl ⟨v, vm₁, B, X₁.warmed, X', hpost, fun target h => hstep₁ _ fun acts => by rw [doInvoke_state]; exact hsteps.trans h⟩
  · exact Or.inr ⟨q, vm₁, B, X₁.warmed, X', hpost, hstep₁ _ fun acts => by rw [doInvoke_state]; exact hsteps⟩
theorem vx_callS (X : Stand p l e R s m args below meth c T locs cells slots) (hexec : p.tables.exec = Jvm.exec) {own : String} {index : Nat} {y : MethodName} {bytes : ByteArray} {maxL : Nat} {ret : Option FieldType}
    (hown : s.vm.findClass own = some m.cls) (hlink : (Cond.methodLink own index y).before args s = true) (hstat : (Cond.static y).before args s = true) (hinit : (Cond.initialized y.cls).before args s = true)
    (hcode : (Cond.code y bytes maxL ret).before args s = true) (hy : y.cls ≠ "java/lang/invoke/MethodHandle" ∧ y.cls ≠ "java/lang/invoke/VarHandle")
    {W9 : Nat} {Pre : Pt → Array Value → Prop} {Post : Pt → Array Value → Option Value → Pt → Prop} {PostX : Pt → Array Value → Addr → Pt → Prop} (hK : vx_Back l R p e below s args y 3 W9 Pre Post PostX)
    {g : JFrame} (hg : g.method = m) (hsize : g.locals.size = c.maxLocals) {argsL rest : List Value} (hlen : ∀ sig, parseMethodDescriptor y.desc = some sig → argsL.length = sig.parameters.length)
    (hstack : g.stack = argsL.reverse ++ rest) (hW : 2 * g.monitorRoom + (rest.map fun v => v.category).sum ≤ W9) (hdg : decode c.code g.pc = .ok (.invokestatic index, 3))
    (hpre : ∀ vm₁, s.WarmedH vm₁ → Pre ⟨T.setVm vm₁, locs, cells, slots⟩ argsL.toArray) :
    (∃ (v : Option Value) (vm₁ : Vm) (B : Pt), s.WarmedH vm₁ ∧ Stand p l e R s m args below meth c B.U B.locs B.cells B.slots ∧ Post ⟨T.setVm vm₁, locs, cells, slots⟩ argsL.toArray v B ∧
      ∀ target, Steps p.tables e below (B.U.setTop { g with pc := g.pc + 3, stack := v.toList ++ rest }) target → Steps p.tables e below (T.setTop g) target) ∨
    (∃ (q : Addr) (vm₁ : Vm) (B : Pt), s.WarmedH vm₁ ∧ Stand p l e R s m args below meth c B.U B.locs B.cells B.slots ∧ PostX ⟨T.setVm vm₁, locs, cells, slots⟩ argsL.toArray q B ∧
      Steps p.tables e below (T.setTop g) ((B.U.setTop { g with stack := rest }).pushFrame (.throwing q))) := by
  obtain ⟨mk, hnamed⟩ := Cond.code_named hcode
  obtain ⟨methM, cM, hmethM, -, -, -, -, -, -, hsigM⟩ := Cond.code_spec hnamed hcode
  have hstatic : methM.isStatic = true := Cond.static_spec hnamed hmethM hstat
  obtain ⟨kP, hkP, -⟩ := className_of_methodNamed hnamed
  have hinitP : kP.init = .initialized := Cond.initialized_spec (findClass_of_methodNamed hnamed) hkP hinit
  obtain ⟨vm₁, X₁, hstep₁⟩ := X.invokestatic hexec hown hlink hnamed hmethM hstatic hkP hinitP hy (g := g) hg (argsL := argsL) (rest := rest) (hlen _ hsigM) hstack hdg
  rcases hK m meth c ⟨T.setVm vm₁, locs, cells, slots⟩ { g with stack := rest } (.invokestatic index) mk argsL.toArray X₁ hg hsize hdg hW (X₁.named hnamed) (hpre vm₁ X₁.warmed) with ⟨v, B, X', hpost, hsteps⟩ | ⟨q, B, X', hpost, hsteps⟩
  · exact Or.inl ⟨v, vm₁, B, X₁.warmed, X', hpost, fun target h => hstep₁ _ fun acts => by rw [doInvoke_state]; exact hsteps.trans h⟩
  · exact Or.inr ⟨q, vm₁, B, X₁.warmed, X', hpost, hstep₁ _ fun acts => by rw [doInvoke_state]; exact hsteps⟩
end Calls
theorem vx_cls {s : State} {T : State} {vm₁ : Vm} {E : String} {k : ClassId} (hW : s.WarmedH vm₁) (h : (T.setVm vm₁).vm.findClass E = some k) : s.vm.findClass E = some k := by
  have h1 : vm₁.findClass E = some k := h
  rw [hW.alike.findClass] at h1
  exact h1
/-- the method's frame g, with q thrown over it -/
def vx_W (p : Program) (l : Launch) (e : Env) (R : Room) (s : State) (m : MethodId) (args : Array Value) (below : List Frame) (meth : Method) (c : Code) (H : Heap) (locs : List Loc) (cells slots : Nat) (Q : State → Prop) (g : JFrame) (q : Addr) : Prop :=
  ∀ T : State, T.heap = H → Stand p l e R s m args below meth c T locs cells slots → ∃ t, Steps p.tables e below ((T.setTop g).pushFrame (.throwing q)) t ∧ Q t
def vx_Run (p : Program) (l : Launch) (e : Env) (R : Room) (s : State) (m : MethodId) (args : Array Value) (below : List Frame) (meth : Method) (c : Code) (H : Heap) (locs : List Loc) (cells slots mc ms : Nat) (g : JFrame) (rest : List Value) (Qa : State → Outcome → State → Prop) (XC : String → State → State → Prop) (free : Addr → Prop) : Prop :=
  ∀ T : State, T.heap = H → Stand p l e R s m args below meth c T locs cells slots →
    (∃ (v : Option Value) (st₀ t T' : State) (L : List Loc), st₀.heap = H ∧ Stand p l e R s m args below meth c T' (locs ++ L) (cells + mc) (slots + ms) ∧ (∀ q ∈ L, free q.base) ∧ T'.heap = t.heap ∧ T'.vm = t.vm ∧ Qa st₀ (.returned v) t ∧
      Goes p e below T g T' { g with pc := g.pc + 3, stack := v.toList ++ rest }) ∨
    (∃ (q : Addr) (st₀ t T' : State) (L : List Loc) (E : String) (ce : Cell), st₀.heap = H ∧ Stand p l e R s m args below meth c T' (locs ++ L) (cells + mc) (slots + ms) ∧ (∀ z ∈ L, free z.base) ∧ T'.heap = t.heap ∧ T'.vm = t.vm ∧ XC E st₀ t ∧ t.heap[q]? = some ce ∧ ce.vm = .none ∧ s.vm.findClass E = some ce.cls ∧
      Steps p.tables e below (T.setTop g) ((T'.setTop { g with stack := rest }).pushFrame (.throwing q)))
def vx_X {S : Type} (px : S → Prop) (B : String → S → State → Prop) (A : Nat → Prop) : String → State → State → Prop := fun E st t => ∃ u : S, px u ∧ B E u t ∧ va_F A st t
section Runs
variable {p : Program} {l : Launch} {e : Env} {R : Room} {s : State} {m : MethodId} {args : Array Value} {below : List Frame} {meth : Method} {c : Code} {H : Heap} {locs : List Loc} {cells slots : Nat}
variable {y : MethodName} {bytes cc : ByteArray} {maxL nL mc ms n index : Nat} {ret : Option FieldType} {ws : List Cond} {rm : Room} {Pc : Array Value → State → Prop} {Qc : Array Value → State → Outcome → State → Prop} {XC : String → State → State → Prop} {free : Addr → Prop} {Ts : List Cond} {own C : String} {b : Addr} {As rest : List Value} {g : JFrame}
theorem vx_callBack (cb : CallB R s args own index y bytes maxL ret ws rm mc ms n) (hM : vx_Met l y ws rm Pc Qc XC mc ms free) (hbl : FrameBlind Pc) : vx_Back l R p e below s args y 3 8 (PreOf R mc ms Pc) (PostOf Qc mc ms free) (vx_Post XC mc ms free) := by
  obtain ⟨hrc, hrs, hfr, hlo, hws, hcw, -, hini, -⟩ := cb
  exact vx_back (bytes := bytes) (maxL := maxL) (ret := ret) hM hbl hrc hrs hfr hlo hws hcw (fun a' U hW => word_at hW (Or.inl (by first | rfl | simp [Cond.onTables, Cond.keeps, Cond.steady])) hini)
theorem vx_runV (S : CallFix p m c cc nL s args Ts own) (hM : vx_Met l y ws rm Pc Qc XC mc ms free) (cw : CallW R s args own C index y bytes maxL ret ws rm mc ms n) (hp : PreV s H C b Pc As)
    (hg : g.method = m) (hn : As.length = n) (hsize : g.locals.size = nL) (hstack : g.stack = As.reverse ++ .ref b :: rest) (hW : 2 * g.monitorRoom + (rest.map fun v => v.category).sum ≤ 8) (hdg : decode cc g.pc = .ok (.invokevirtual index, 3)) (hf : cells + mc ≤ R.cells ∧ slots + ms ≤ R.slots) :
    vx_Run p l e R s m args below meth c H locs cells slots mc ms g rest (Qc (Value.ref b :: As).toArray) XC free := by
  have hK : vx_Back l R p e below s args y 3 8 (PreOf R mc ms Pc) (PostOf Qc mc ms free) (vx_Post XC mc ms free) := vx_callBack cw.1 hM hp.1
  obtain ⟨⟨-, -, -, -, -, -, hcode, -, hy, hlen, hl⟩, hin, hse⟩ := cw
  obtain ⟨hx, hb, hml, ho, -⟩ := S
  obtain ⟨-, ⟨cellB, hcB, hoB, hclB⟩, hPc⟩ := hp
  intro T hT X
  rcases vx_callV X hx (C := C) (bytes := bytes) (maxL := maxL) (ret := ret) ho hl hin hse hcode hy hK (by rw [hT]; exact hcB) hoB hclB hg (hsize.trans hml.symm) (argsL := As) (rest := rest) (fun sig h => hn.trans (hlen sig h)) hstack hW (by rw [hb]; exact hdg)
    (fun vm₁ hW₁ => ⟨hf.1, hf.2, hPc (T.setVm vm₁) hT hW₁⟩) with ⟨v, vm₁, ⟨U', l2, c2, s2⟩, hW₁, X', ⟨g', mk, t, L, e1, e2, hq, h1, hL, h2, h3⟩, st⟩ | ⟨q, vm₁, ⟨U', l2, c2, s2⟩, hW₁, X', ⟨g', mk, t, L, E, ce, e1, e2, hq, hce, hcv, hcl, h1, hL, h2, h3⟩, st⟩
  · dsimp only [Pt.U, Pt.locs, Pt.cells, Pt.slots] at X' e1 e2 h1 h2 h3 st
    subst h1; subst h2; subst h3
    exact Or.inl ⟨v, (T.setVm vm₁).calling g' mk (Value.ref b :: As).toArray, t, U', L, hT, X', hL, e1, e2, hq, st⟩
  · dsimp only [Pt.U, Pt.locs, Pt.cells, Pt.slots] at X' e1 e2 h1 h2 h3 st hcl
    subst h1; subst h2; subst h3
    exact Or.inr ⟨q, (T.setVm vm₁).calling g' mk (Value.ref b :: As).toArray, t, U', L, E, ce, hT, X', hL, e1, e2, hq, hce, hcv, vx_cls hW₁ hcl, st⟩
theorem vx_runS (S : CallFix p m c cc nL s args Ts own) (hM : vx_Met l y ws rm Pc Qc XC mc ms free) (cw : CallB R s args own index y bytes maxL ret ws rm mc ms n ∧ (Cond.static y).before args s = true) (hp : PreS s H Pc As)
    (hg : g.method = m) (hn : As.length = n) (hsize : g.locals.size = nL) (hstack : g.stack = As.reverse ++ rest) (hW : 2 * g.monitorRoom + (rest.map fun v => v.category).sum ≤ 8) (hdg : decode cc g.pc = .ok (.invokestatic index, 3)) (hf : cells + mc ≤ R.cells ∧ slots + ms ≤ R.slots) :
    vx_Run p l e R s m args below meth c H locs cells slots mc ms g rest (Qc As.toArray) XC free := by
  have hK : vx_Back l R p e below s args y 3 8 (PreOf R mc ms Pc) (PostOf Qc mc ms free) (vx_Post XC mc ms free) := vx_callBack cw.1 hM hp.1
  obtain ⟨⟨-, -, -, -, -, -, hcode, hini, hy, hlen, hl⟩, hstt⟩ := cw
  obtain ⟨hx, hb, hml, ho, -⟩ := S
  intro T hT X
  rcases vx_callS X hx (bytes := bytes) (maxL := maxL) (ret := ret) ho hl hstt hini hcode hy hK hg (hsize.trans hml.symm) (argsL := As) (rest := rest) (fun sig h => hn.trans (hlen sig h)) hstack hW (by rw [hb]; exact hdg)
    (fun vm₁ hW₁ => ⟨hf.1, hf.2, hp.2 (T.setVm vm₁) hT hW₁⟩) with ⟨v, vm₁, ⟨U', l2, c2, s2⟩, hW₁, X', ⟨g', mk, t, L, e1, e2, hq, h1, hL, h2, h3⟩, st⟩ | ⟨q, vm₁, ⟨U', l2, c2, s2⟩, hW₁, X', ⟨g', mk, t, L, E, ce, e1, e2, hq, hce, hcv, hcl, h1, hL, h2, h3⟩, st⟩
  · dsimp only [Pt.U, Pt.locs, Pt.cells, Pt.slots] at X' e1 e2 h1 h2 h3 st
    subst h1; subst h2; subst h3
    exact Or.inl ⟨v, (T.setVm vm₁).calling g' mk As.toArray, t, U', L, hT, X', hL, e1, e2, hq, st⟩
  · dsimp only [Pt.U, Pt.locs, Pt.cells, Pt.slots] at X' e1 e2 h1 h2 h3 st hcl
    subst h1; subst h2; subst h3
    exact Or.inr ⟨q, (T.setVm vm₁).calling g' mk As.toArray, t, U', L, E, ce, hT, X', hL, e1, e2, hq, hce, hcv, vx_cls hW₁ hcl, st⟩
end Runs
section Rows
variable {p : Program} {l : Launch} {e : Env} {R : Room} {s : State} {m : MethodId} {args : Array Value} {below : List Frame} {meth : Method} {c : Code} {H : Heap} {locs : List Loc} {cells slots : Nat} {Q : State → Prop}
variable {mc ms : Nat} {free : Addr → Prop} {A0 A1 : Nat → Prop} {H0 : Heap} {a : Array Value} {pc : Nat} {ls : Array Slot} {st0 rest : List Value}
theorem vx_keep {st₀ t T' : State} {L : List Loc} (h0 : st₀.heap = H) (e1 : T'.heap = t.heap) (hS : va_S A0 H0 H locs) (hA : ∀ q, q < H.size → A1 q → A0 q) (hf : ∀ q, free q → A0 q) (hL : ∀ q ∈ L, free q.base) (hF : va_F A1 st₀ t) :
    H.size ≤ T'.heap.size ∧ (∀ q : Nat, q < H.size → ¬ A1 q → T'.heap[q]? = H[q]?) ∧ va_S A0 H0 T'.heap (locs ++ L) := by
  obtain ⟨hz, hk⟩ := hF
  rw [h0] at hz hk
  exact ⟨by rw [e1]; exact hz, fun q h1 h2 => by rw [e1]; exact hk q h1 h2,
    ⟨Nat.le_trans hS.1 (by rw [e1]; exact hz), fun q h1 h2 => by rw [e1, hk q (Nat.lt_of_lt_of_le h1 hS.1) (fun z => h2 (hA q (Nat.lt_of_lt_of_le h1 hS.1) z))]; exact hS.2.1 q h1 h2, fun q hq => by
      rcases List.mem_append.mp hq with h | h
      · exact hS.2.2 q h
      · exact hf _ (hL q h)⟩⟩
theorem vx_calli {S SX : Type} {post : Int32 → S → Prop} {px : SX → Prop} {B : S → State → Prop} {BX : String → SX → State → Prop} {AX : Nat → Prop} (hr : vx_Run p l e R s m args below meth c H locs cells slots mc ms (F0 m pc ls st0) rest (va_Qi post B A1 a) (vx_X px BX AX) free) (hS : va_S A0 H0 H locs) (hA : ∀ q, q < H.size → A1 q → A0 q) (hf : ∀ q, free q → A0 q) (hAX : ∀ q, q < H.size → AX q → A0 q)
    (kx : ∀ (E : String) (ce : Cell) (q9 : Addr) (u : SX) (t : State) (H1 : Heap) (locs1 : List Loc), t.heap = H1 → s.vm.Alike t.vm → px u → BX E u t → H.size ≤ H1.size → (∀ q : Nat, q < H.size → ¬ AX q → H1[q]? = H[q]?) → va_S A0 H0 H1 locs1 → H1[q9]? = some ce → ce.vm = .none → s.vm.findClass E = some ce.cls → vx_W p l e R s m args below meth c H1 locs1 (cells + mc) (slots + ms) Q (F0 m pc ls rest) q9)
    (kk : ∀ (r : Int32) (u : S) (t : State) (H1 : Heap) (locs1 : List Loc), t.heap = H1 → s.vm.Alike t.vm → post r u → B u t → H.size ≤ H1.size → (∀ q : Nat, q < H.size → ¬ A1 q → H1[q]? = H[q]?) → va_S A0 H0 H1 locs1 → W p l e R s m args below meth c H1 locs1 (cells + mc) (slots + ms) Q (F0 m (pc + 3) ls (.int r :: rest))) : W p l e R s m args below meth c H locs cells slots Q (F0 m pc ls st0) := by
  intro T hT X
  rcases hr T hT X with ⟨v, st₀, t, T', L, h0, X', hL, e1, e2, ⟨⟨r, u, hv, hp, hb⟩, hF⟩, st⟩ | ⟨q, st₀, t, T', L, E, ce, h0, X', hL, e1, e2, ⟨u, hp, hb, hF⟩, hce, hcv, hcl, st⟩
  · cases hv
    obtain ⟨k1, k2, k3⟩ := vx_keep h0 e1 hS hA hf hL hF
    obtain ⟨t2, a1, b1⟩ := kk r u t T'.heap (locs ++ L) e1.symm (by rw [← e2]; exact X'.warmed.alike) hp hb k1 k2 k3 T' rfl X'
    exact ⟨t2, st t2 a1, b1⟩
  · obtain ⟨k1, k2, k3⟩ := vx_keep h0 e1 hS hAX hf hL hF
    obtain ⟨t2, a1, b1⟩ := kx E ce q u t T'.heap (locs ++ L) e1.symm (by rw [← e2]; exact X'.warmed.alike) hp hb k1 k2 k3 (by rw [e1]; exact hce) hcv hcl T' rfl X'
    exact ⟨t2, st.trans a1, b1⟩
theorem vx_calll {S SX : Type} {post : Int64 → S → Prop} {px : SX → Prop} {B : S → State → Prop} {BX : String → SX → State → Prop} {AX : Nat → Prop} (hr : vx_Run p l e R s m args below meth c H locs cells slots mc ms (F0 m pc ls st0) rest (va_Ql post B A1 a) (vx_X px BX AX) free) (hS : va_S A0 H0 H locs) (hA : ∀ q, q < H.size → A1 q → A0 q) (hf : ∀ q, free q → A0 q) (hAX : ∀ q, q < H.size → AX q → A0 q)
    (kx : ∀ (E : String) (ce : Cell) (q9 : Addr) (u : SX) (t : State) (H1 : Heap) (locs1 : List Loc), t.heap = H1 → s.vm.Alike t.vm → px u → BX E u t → H.size ≤ H1.size → (∀ q : Nat, q < H.size → ¬ AX q → H1[q]? = H[q]?) → va_S A0 H0 H1 locs1 → H1[q9]? = some ce → ce.vm = .none → s.vm.findClass E = some ce.cls → vx_W p l e R s m args below meth c H1 locs1 (cells + mc) (slots + ms) Q (F0 m pc ls rest) q9)
    (kk : ∀ (r : Int64) (u : S) (t : State) (H1 : Heap) (locs1 : List Loc), t.heap = H1 → s.vm.Alike t.vm → post r u → B u t → H.size ≤ H1.size → (∀ q : Nat, q < H.size → ¬ A1 q → H1[q]? = H[q]?) → va_S A0 H0 H1 locs1 → W p l e R s m args below meth c H1 locs1 (cells + mc) (slots + ms) Q (F0 m (pc + 3) ls (.long r :: rest))) : W p l e R s m args below meth c H locs cells slots Q (F0 m pc ls st0) := by
  intro T hT X
  rcases hr T hT X with ⟨v, st₀, t, T', L, h0, X', hL, e1, e2, ⟨⟨r, u, hv, hp, hb⟩, hF⟩, st⟩ | ⟨q, st₀, t, T', L, E, ce, h0, X', hL, e1, e2, ⟨u, hp, hb, hF⟩, hce, hcv, hcl, st⟩
  · cases hv
    obtain ⟨k1, k2, k3⟩ := vx_keep h0 e1 hS hA hf hL hF
    obtain ⟨t2, a1, b1⟩ := kk r u t T'.heap (locs ++ L) e1.symm (by rw [← e2]; exact X'.warmed.alike) hp hb k1 k2 k3 T' rfl X'
    exact ⟨t2, st t2 a1, b1⟩
  · obtain ⟨k1, k2, k3⟩ := vx_keep h0 e1 hS hAX hf hL hF
    obtain ⟨t2, a1, b1⟩ := kx E ce q u t T'.heap (locs ++ L) e1.symm (by rw [← e2]; exact X'.warmed.alike) hp hb k1 k2 k3 (by rw [e1]; exact hce) hcv hcl T' rfl X'
    exact ⟨t2, st.trans a1, b1⟩
theorem vx_callf {S SX : Type} {post : UInt32 → S → Prop} {px : SX → Prop} {B : S → State → Prop} {BX : String → SX → State → Prop} {AX : Nat → Prop} (hr : vx_Run p l e R s m args below meth c H locs cells slots mc ms (F0 m pc ls st0) rest (va_Qf post B A1 a) (vx_X px BX AX) free) (hS : va_S A0 H0 H locs) (hA : ∀ q, q < H.size → A1 q → A0 q) (hf : ∀ q, free q → A0 q) (hAX : ∀ q, q < H.size → AX q → A0 q)
    (kx : ∀ (E : String) (ce : Cell) (q9 : Addr) (u : SX) (t : State) (H1 : Heap) (locs1 : List Loc), t.heap = H1 → s.vm.Alike t.vm → px u → BX E u t → H.size ≤ H1.size → (∀ q : Nat, q < H.size → ¬ AX q → H1[q]? = H[q]?) → va_S A0 H0 H1 locs1 → H1[q9]? = some ce → ce.vm = .none → s.vm.findClass E = some ce.cls → vx_W p l e R s m args below meth c H1 locs1 (cells + mc) (slots + ms) Q (F0 m pc ls rest) q9)
    (kk : ∀ (r : UInt32) (u : S) (t : State) (H1 : Heap) (locs1 : List Loc), t.heap = H1 → s.vm.Alike t.vm → post r u → B u t → H.size ≤ H1.size → (∀ q : Nat, q < H.size → ¬ A1 q → H1[q]? = H[q]?) → va_S A0 H0 H1 locs1 → W p l e R s m args below meth c H1 locs1 (cells + mc) (slots + ms) Q (F0 m (pc + 3) ls (.float r :: rest))) : W p l e R s m args below meth c H locs cells slots Q (F0 m pc ls st0) := by
  intro T hT X
  rcases hr T hT X with ⟨v, st₀, t, T', L, h0, X', hL, e1, e2, ⟨⟨r, u, hv, hp, hb⟩, hF⟩, st⟩ | ⟨q, st₀, t, T', L, E, ce, h0, X', hL, e1, e2, ⟨u, hp, hb, hF⟩, hce, hcv, hcl, st⟩
  · cases hv
    obtain ⟨k1, k2, k3⟩ := vx_keep h0 e1 hS hA hf hL hF
    obtain ⟨t2, a1, b1⟩ := kk r u t T'.heap (locs ++ L) e1.symm (by rw [← e2]; exact X'.warmed.alike) hp hb k1 k2 k3 T' rfl X'
    exact ⟨t2, st t2 a1, b1⟩
  · obtain ⟨k1, k2, k3⟩ := vx_keep h0 e1 hS hAX hf hL hF
    obtain ⟨t2, a1, b1⟩ := kx E ce q u t T'.heap (locs ++ L) e1.symm (by rw [← e2]; exact X'.warmed.alike) hp hb k1 k2 k3 (by rw [e1]; exact hce) hcv hcl T' rfl X'
    exact ⟨t2, st.trans a1, b1⟩
theorem vx_calld {S SX : Type} {post : UInt64 → S → Prop} {px : SX → Prop} {B : S → State → Prop} {BX : String → SX → State → Prop} {AX : Nat → Prop} (hr : vx_Run p l e R s m args below meth c H locs cells slots mc ms (F0 m pc ls st0) rest (va_Qd post B A1 a) (vx_X px BX AX) free) (hS : va_S A0 H0 H locs) (hA : ∀ q, q < H.size → A1 q → A0 q) (hf : ∀ q, free q → A0 q) (hAX : ∀ q, q < H.size → AX q → A0 q)
    (kx : ∀ (E : String) (ce : Cell) (q9 : Addr) (u : SX) (t : State) (H1 : Heap) (locs1 : List Loc), t.heap = H1 → s.vm.Alike t.vm → px u → BX E u t → H.size ≤ H1.size → (∀ q : Nat, q < H.size → ¬ AX q → H1[q]? = H[q]?) → va_S A0 H0 H1 locs1 → H1[q9]? = some ce → ce.vm = .none → s.vm.findClass E = some ce.cls → vx_W p l e R s m args below meth c H1 locs1 (cells + mc) (slots + ms) Q (F0 m pc ls rest) q9)
    (kk : ∀ (r : UInt64) (u : S) (t : State) (H1 : Heap) (locs1 : List Loc), t.heap = H1 → s.vm.Alike t.vm → post r u → B u t → H.size ≤ H1.size → (∀ q : Nat, q < H.size → ¬ A1 q → H1[q]? = H[q]?) → va_S A0 H0 H1 locs1 → W p l e R s m args below meth c H1 locs1 (cells + mc) (slots + ms) Q (F0 m (pc + 3) ls (.double r :: rest))) : W p l e R s m args below meth c H locs cells slots Q (F0 m pc ls st0) := by
  intro T hT X
  rcases hr T hT X with ⟨v, st₀, t, T', L, h0, X', hL, e1, e2, ⟨⟨r, u, hv, hp, hb⟩, hF⟩, st⟩ | ⟨q, st₀, t, T', L, E, ce, h0, X', hL, e1, e2, ⟨u, hp, hb, hF⟩, hce, hcv, hcl, st⟩
  · cases hv
    obtain ⟨k1, k2, k3⟩ := vx_keep h0 e1 hS hA hf hL hF
    obtain ⟨t2, a1, b1⟩ := kk r u t T'.heap (locs ++ L) e1.symm (by rw [← e2]; exact X'.warmed.alike) hp hb k1 k2 k3 T' rfl X'
    exact ⟨t2, st t2 a1, b1⟩
  · obtain ⟨k1, k2, k3⟩ := vx_keep h0 e1 hS hAX hf hL hF
    obtain ⟨t2, a1, b1⟩ := kx E ce q u t T'.heap (locs ++ L) e1.symm (by rw [← e2]; exact X'.warmed.alike) hp hb k1 k2 k3 (by rw [e1]; exact hce) hcv hcl T' rfl X'
    exact ⟨t2, st.trans a1, b1⟩
theorem vx_callv {S SX : Type} {post : S → Prop} {px : SX → Prop} {B : S → State → Prop} {BX : String → SX → State → Prop} {AX : Nat → Prop} (hr : vx_Run p l e R s m args below meth c H locs cells slots mc ms (F0 m pc ls st0) rest (va_Qv post B A1 a) (vx_X px BX AX) free) (hS : va_S A0 H0 H locs) (hA : ∀ q, q < H.size → A1 q → A0 q) (hf : ∀ q, free q → A0 q) (hAX : ∀ q, q < H.size → AX q → A0 q)
    (kx : ∀ (E : String) (ce : Cell) (q9 : Addr) (u : SX) (t : State) (H1 : Heap) (locs1 : List Loc), t.heap = H1 → s.vm.Alike t.vm → px u → BX E u t → H.size ≤ H1.size → (∀ q : Nat, q < H.size → ¬ AX q → H1[q]? = H[q]?) → va_S A0 H0 H1 locs1 → H1[q9]? = some ce → ce.vm = .none → s.vm.findClass E = some ce.cls → vx_W p l e R s m args below meth c H1 locs1 (cells + mc) (slots + ms) Q (F0 m pc ls rest) q9)
    (kk : ∀ (u : S) (t : State) (H1 : Heap) (locs1 : List Loc), t.heap = H1 → s.vm.Alike t.vm → post u → B u t → H.size ≤ H1.size → (∀ q : Nat, q < H.size → ¬ A1 q → H1[q]? = H[q]?) → va_S A0 H0 H1 locs1 → W p l e R s m args below meth c H1 locs1 (cells + mc) (slots + ms) Q (F0 m (pc + 3) ls (rest))) : W p l e R s m args below meth c H locs cells slots Q (F0 m pc ls st0) := by
  intro T hT X
  rcases hr T hT X with ⟨v, st₀, t, T', L, h0, X', hL, e1, e2, ⟨⟨u, hv, hp, hb⟩, hF⟩, st⟩ | ⟨q, st₀, t, T', L, E, ce, h0, X', hL, e1, e2, ⟨u, hp, hb, hF⟩, hce, hcv, hcl, st⟩
  · cases hv
    obtain ⟨k1, k2, k3⟩ := vx_keep h0 e1 hS hA hf hL hF
    obtain ⟨t2, a1, b1⟩ := kk u t T'.heap (locs ++ L) e1.symm (by rw [← e2]; exact X'.warmed.alike) hp hb k1 k2 k3 T' rfl X'
    exact ⟨t2, st t2 a1, b1⟩
  · obtain ⟨k1, k2, k3⟩ := vx_keep h0 e1 hS hAX hf hL hF
    obtain ⟨t2, a1, b1⟩ := kx E ce q u t T'.heap (locs ++ L) e1.symm (by rw [← e2]; exact X'.warmed.alike) hp hb k1 k2 k3 (by rw [e1]; exact hce) hcv hcl T' rfl X'
    exact ⟨t2, st.trans a1, b1⟩
/-- caught by the row x of this method's table; the rows ahead don't take it -/
theorem vx_catch {own name : String} {E : String} {ce : Cell} {q : Addr} (hown : s.vm.findClass own = some m.cls) (pre : List ExceptionTableEntry) (x : ExceptionTableEntry) (suf : List ExceptionTableEntry) (hsplit : c.exceptionTable.toList = pre ++ x :: suf)
    (hpass : ∀ z ∈ pre, covers z pc = false ∨ (z.catchType ≠ 0 ∧ ∃ nm : String, (Cond.classLink own z.catchType nm).before args s = true ∧ va_Nc E nm s)) (hx : covers x pc = true) (h0 : x.catchType ≠ 0)
    (hlink : (Cond.classLink own x.catchType name).before args s = true) (hcast : (Cond.castable E name).before args s = true) (hcell : H[q]? = some ce) (hv : ce.vm = .none) (hcl : s.vm.findClass E = some ce.cls)
    (kk : W p l e R s m args below meth c H locs cells slots Q (F0 m x.handlerPc ls [.ref q])) : vx_W p l e R s m args below meth c H locs cells slots Q (F0 m pc ls rest) q := by
  intro T hT X
  have hpl : e.platform.magicAccessors = ({} : Platform).magicAccessors := by rw [X.admits.platform]
  obtain ⟨c3, c4, hc3, hc4, hasg⟩ := Cond.castable_spec hcast
  cases Option.some.inj (hc3.symm.trans hcl)
  obtain ⟨c5, hc5, hcl5⟩ := Cond.classLink_spec hown hlink e.platform hpl
  cases Option.some.inj (hc4.symm.trans hc5)
  obtain ⟨vm', X', st⟩ := X.thenCaughtThrough q (g := F0 m pc ls rest) rfl (Steps.refl _) (by rw [hT]; exact hcell) (by rw [hv]; rfl) (by obtain ⟨k9, h9, -⟩ := Vm.findClass_spec hcl; exact ⟨k9, h9⟩) pre x suf hsplit
    (fun z hz => by
      rcases hpass z hz with h | ⟨hz0, nm, hl1, hn1⟩
      · exact Or.inl h
      · obtain ⟨c6, hc6, hcl6⟩ := Cond.classLink_spec hown hl1 e.platform hpl
        obtain ⟨a8, b8, h1, h2, h3⟩ := hn1
        cases Option.some.inj (h1.symm.trans hcl)
        cases Option.some.inj (h2.symm.trans hc6)
        exact Or.inr ⟨hz0, _, hcl6, h3⟩) hx (Or.inr ⟨h0, c4, hcl5, hasg⟩)
  obtain ⟨t, a1, b1⟩ := kk (T.setVm vm') hT X'
  exact ⟨t, st.trans a1, b1⟩
end Rows
section Ends
variable {p : Program} {l : Launch} {e : Env} {R : Room} {s : State} {m : MethodId} {args : Array Value} {below : List Frame} {meth : Method} {c : Code} {H : Heap} {locs : List Loc} {cells slots : Nat} {Q : State → Prop}
variable {mc ms : Nat} {free : Addr → Prop} {A0 A1 : Nat → Prop} {H0 : Heap} {a : Array Value} {ls : Array Slot} {st0 rest : List Value}
variable {Qc : Array Value → State → Outcome → State → Prop} {XC : String → State → State → Prop}
/-- what a body that may throw owes at its end -/
def vx_MQ (below : List Frame) (Qc : Array Value → State → Outcome → State → Prop) (XC : String → State → State → Prop) (a : Array Value) (s : State) (mc ms : Nat) (free : Addr → Prop) : State → Prop := fun t =>
  ∃ o, t.status = .running ∧ Ended t below o ∧ vx_Q Qc XC mc ms free a s o t
theorem vx_ret {g : JFrame} {mc ms : Nat} (k : W p l e R s m args below meth c H locs cells slots (MQ below Qc args s mc ms free) g) : W p l e R s m args below meth c H locs cells slots (vx_MQ below Qc XC args s mc ms free) g := by
  intro T hT X
  obtain ⟨t, a1, o, b1, b2, b3, b4⟩ := k T hT X
  exact ⟨t, a1, o, b1, b2, Or.inl ⟨b3, b4⟩⟩
/-- not caught here: it goes on to the caller -/
theorem vx_widen {g : JFrame} {q : Addr} {k n : Nat} (h1 : cells ≤ k) (h2 : slots ≤ n) (kk : vx_W p l e R s m args below meth c H locs k n Q g q) : vx_W p l e R s m args below meth c H locs cells slots Q g q := fun T hT X => kk T hT (stand_widen X h1 h2)
theorem vx_out {pc : Nat} {E : String} {ce : Cell} {q : Addr} {mc ms : Nat} (hout : ∀ x ∈ c.exceptionTable.toList, covers x pc = false) (hlocks : meth.locks = false) (hcell : H[q]? = some ce) (hv : ce.vm = .none) (hcl : s.vm.findClass E = some ce.cls)
    (hx : ∀ t : State, t.heap = H → s.vm.Alike t.vm → XC E s t) (hf : ∀ z ∈ locs, free z.base) (hc : cells ≤ mc) (hs : slots ≤ ms) :
    vx_W p l e R s m args below meth c H locs cells slots (vx_MQ below Qc XC args s mc ms free) (F0 m pc ls rest) q := by
  intro T hT X
  obtain ⟨st1, hrun, hend, hW, hsm⟩ := X.leaveThrown q (g := F0 m pc ls rest) rfl rfl rfl hout hlocks
  have hcell9 : (T.setFrames (.throwing q :: below)).heap[q]? = some ce := by
    show T.heap[q]? = some ce
    rw [hT]; exact hcell
  exact ⟨_, st1, .threw q, hrun, hend, Or.inr ⟨q, rfl, E, ce, locs, hx _ hT hW.alike, hcell9, hv, hcl, hW, hsm.mono hc hs, hf⟩⟩
theorem vx_frame {U : State} {k n : Nat} (h : s.sameButNew ({ U with vm := s.vm } : State) locs k n) : s.heap.size ≤ U.heap.size ∧ ∀ q : Nat, q < s.heap.size → (∀ z ∈ locs, z.base ≠ q) → U.heap[q]? = s.heap[q]? := by
  obtain ⟨-, h2, -, -, -, h6⟩ := h
  refine ⟨h2, fun q hq hz => ?_⟩
  obtain ⟨c9, e1, e2, e3, e4⟩ := h6 q _ (Array.getElem?_eq_getElem hq)
  have hs : c9.slots = (s.heap[q]).slots := Array.ext_getElem? fun i => e4 i fun hm => hz _ hm rfl
  have h9 : c9 = s.heap[q] := by
    rw [hs] at e2
    exact e2
  have e5 : U.heap[q]? = some c9 := e1
  rw [e5, h9, Array.getElem?_eq_getElem hq]
/-- the words of a throw but the four that speak of the heap -/
def vx_no (w : Cond) : Bool := decide (w ≠ .isRef (.static Bundle.tN "UNASSIGNED_STACK" Bundle.steD)) && decide (w ≠ .isRef (.static Bundle.tN "SUPPRESSED_SENTINEL" Bundle.listD)) && decide (w ≠ .laysStatic Bundle.tN "UNASSIGNED_STACK" Bundle.steD) && decide (w ≠ .laysStatic Bundle.tN "SUPPRESSED_SENTINEL" Bundle.listD)
def vx_at0 (own : String) (ic : Nat) (X : String) (names : List String) : List Cond := (Bundle.ownAtoms0 own ic X names).filter vx_no
def vx_atS (own : String) (ic : Nat) (X : String) (names : List String) : List Cond := (Bundle.ownAtoms own ic X names).filter vx_no
/-- a word that the tables alone decide, or a good one -/
def vx_ot (w : Cond) : Bool := w.onTables || goodWord w
theorem vx_ot_at {args a' : Array Value} {s U : State} {w : Cond} (hW : s.WarmedH U.vm) (hvm : s.vm = U.vm) (hg : vx_ot w = true) (h : w.before args s = true) : w.before a' U = true := by
  simp only [vx_ot, Bool.or_eq_true] at hg
  rcases hg with hg | hg
  · exact va_tabs hg hvm h
  · exact word_at hW (good_of_word hg) h
/-- a list's words: the good ones out of the method's own list, the others by premises of their own -/
theorem vx_hat {args : Array Value} {s : State} {L B : List Cond} (h1 : ∀ w ∈ L.filter goodWord, w.before args s = true) (h2 : ∀ w ∈ L.filter (fun w => !goodWord w), w ∈ B) (h3 : ∀ w ∈ B, w.before args s = true) : ∀ w ∈ L, w.before args s = true := by
  intro w hw
  by_cases g : goodWord w = true
  · exact h1 w (List.mem_filter.mpr ⟨hw, g⟩)
  · refine h3 w (h2 w (List.mem_filter.mpr ⟨hw, ?_⟩))
    show (!goodWord w) = true
    cases hgw : goodWord w
    · rfl
    · exact absurd hgw g
theorem vx_c {args : Array Value} {s : State} {w : Cond} {B : List Cond} (h : w.before args s = true) (t : ∀ w ∈ B, w.before args s = true) : ∀ w' ∈ w :: B, w'.before args s = true := fun w' h' => (List.mem_cons.mp h').elim (fun e => by rw [e]; exact h) (t w')
theorem vx_n {args : Array Value} {s : State} : ∀ w ∈ ([] : List Cond), w.before args s = true := fun _ h => nomatch h
theorem vx_own {args : Array Value} {s : State} {L : List Cond} (h1 : ∀ w ∈ L.filter vx_no, w.before args s = true)
    (hU : (Cond.isRef (.static Bundle.tN "UNASSIGNED_STACK" Bundle.steD)).before args s = true) (hN : (Cond.isRef (.static Bundle.tN "SUPPRESSED_SENTINEL" Bundle.listD)).before args s = true)
    (lU : (Cond.laysStatic Bundle.tN "UNASSIGNED_STACK" Bundle.steD).before args s = true) (lN : (Cond.laysStatic Bundle.tN "SUPPRESSED_SENTINEL" Bundle.listD).before args s = true) : ∀ w ∈ L, w.before args s = true := by
  intro w hw
  by_cases e1 : w = .isRef (.static Bundle.tN "UNASSIGNED_STACK" Bundle.steD)
  · rw [e1]; exact hU
  · by_cases e2 : w = .isRef (.static Bundle.tN "SUPPRESSED_SENTINEL" Bundle.listD)
    · rw [e2]; exact hN
    · by_cases e3 : w = .laysStatic Bundle.tN "UNASSIGNED_STACK" Bundle.steD
      · rw [e3]; exact lU
      · by_cases e4 : w = .laysStatic Bundle.tN "SUPPRESSED_SENTINEL" Bundle.listD
        · rw [e4]; exact lN
        · exact h1 w (List.mem_filter.mpr ⟨hw, by unfold vx_no; rw [decide_eq_true e1, decide_eq_true e2, decide_eq_true e3, decide_eq_true e4]; rfl⟩)
/-- where a static field lies, its class's statics cell in H -/
def vx_L (C n d : String) (A : Nat → Prop) (U : State) (H : Heap) : Prop := ∃ (c : ClassId) (k : Class) (i : Nat) (f : Field) (a : Nat) (cell : Cell), U.vm.findClass C = some c ∧ U.fieldFound? C n d = some (c, k, i, f) ∧ f.isStatic = true ∧ k.statics = some a ∧ H[a]? = some cell ∧ cell.vm.isStatics = true ∧ cell.cls = c ∧ f.slot < cell.slots.size ∧ k.staticTypes[f.slot]? = some f.type ∧ ¬ A a
theorem vx_L.moved {C n d : String} {A : Nat → Prop} {u U : State} {H : Heap} (hvm : u.vm.Alike U.vm) (h : vx_L C n d A u H) : vx_L C n d A U H := by
  obtain ⟨c, k, i, f, a, cell, h1, h2, h3, h4, h5, h6, h7, h8, h9, h10⟩ := h
  obtain ⟨k', hi', he⟩ := State.fieldFound?_setVm hvm h2
  exact ⟨c, k', i, f, a, cell, by rw [hvm.findClass]; exact h1, hi', h3, by rw [he]; exact h4, h5, h6, h7, h8, by rw [he]; exact h9, h10⟩
theorem vx_L.kept {C n d : String} {A : Nat → Prop} {U : State} {H H1 : Heap} (h : vx_L C n d A U H) (hq : ∀ a : Nat, a < H.size → ¬ A a → H1[a]? = H[a]?) : vx_L C n d A U H1 := by
  obtain ⟨c, k, i, f, a, cell, h1, h2, h3, h4, h5, h6, h7, h8, h9, h10⟩ := h
  exact ⟨c, k, i, f, a, cell, h1, h2, h3, h4, by rw [hq a (Array.getElem?_eq_some_iff.mp h5).1 h10]; exact h5, h6, h7, h8, h9, h10⟩
theorem vx_L.narrow {C n d : String} {A B : Nat → Prop} {U : State} {H : Heap} (h : vx_L C n d A U H) (hAB : ∀ q, B q → A q) : vx_L C n d B U H := by
  obtain ⟨c, k, i, f, a, cell, h1, h2, h3, h4, h5, h6, h7, h8, h9, h10⟩ := h
  exact ⟨c, k, i, f, a, cell, h1, h2, h3, h4, h5, h6, h7, h8, h9, fun z => h10 (hAB _ z)⟩
theorem vx_L.word {C n d : String} {A : Nat → Prop} {s : State} {args : Array Value} (h : vx_L C n d A s s.heap) : (Cond.laysStatic C n d).before args s = true := by
  obtain ⟨c, k, i, f, a, cell, h1, h2, h3, h4, h5, h6, h7, h8, h9, -⟩ := h
  show (Cond.laysStatic C n d).holds args s none s [] = true
  exact Cond.laysStatic_of h1 h2 h3 h4 h5 h6 h7 h8 h9
/-- .. and what it holds: null or some reference -/
def vx_Zq (C n d : String) (A : Nat → Prop) (U : State) (H : Heap) : Prop := va_Zq C n d A U H ∧ vx_L C n d A U H
theorem vx_Zq.moved {C n d : String} {A : Nat → Prop} {u U : State} {H : Heap} (hvm : u.vm.Alike U.vm) (h : vx_Zq C n d A u H) : vx_Zq C n d A U H := ⟨va_Zq.moved hvm h.1, vx_L.moved hvm h.2⟩
theorem vx_Zq.kept {C n d : String} {A : Nat → Prop} {U : State} {H H1 : Heap} (h : vx_Zq C n d A U H) (hq : ∀ a : Nat, a < H.size → ¬ A a → H1[a]? = H[a]?) : vx_Zq C n d A U H1 := ⟨va_Zq.kept h.1 hq, vx_L.kept h.2 hq⟩
theorem vx_Zq.narrow {C n d : String} {A B : Nat → Prop} {U : State} {H : Heap} (h : vx_Zq C n d A U H) (hAB : ∀ q, B q → A q) : vx_Zq C n d B U H := ⟨va_Zq.narrow h.1 hAB, vx_L.narrow h.2 hAB⟩
theorem vx_Zqof {args : Array Value} {s : State} {C n d : String} {A : Nat → Prop} (hl : (Cond.laysStatic C n d).before args s = true) (hini : (Cond.initialized C).before args s = true) (h : (Cond.isRef (.static C n d)).before args s = true) (hA : ∀ a : Nat, a < s.heap.size → ¬ A a) : vx_Zq C n d A s s.heap := by
  refine ⟨va_Zqof hl hini h hA, ?_⟩
  obtain ⟨c, k, i, f, a, cell, h1, h2, h3, h4, h5, h6, h7, h8, h9⟩ := Cond.laysStatic_spec hl
  exact ⟨c, k, i, f, a, cell, h1, h2, h3, h4, h5, h6, h7, h8, h9, hA a (Array.getElem?_eq_some_iff.mp h5).1⟩
theorem vx_isRef {C n d : String} {v : Value} {A : Nat → Prop} {s : State} {args : Array Value} (h : va_Z C n d v A s s.heap) (hv : v.isRef = true) : (Cond.isRef (.static C n d)).before args s = true := by
  obtain ⟨cf, kf, fi, f, a, cell, h1, h2, h3, h4, h5, h6, h7, -⟩ := h
  have he : (Term.static C n d).eval args s none [] s = some v := by
    simp [Term.eval, State.fieldNamed?, h1, h2, h4, h5, h6, h7]
  simp only [Cond.before, Cond.holds, Cond.value, he]
  cases v <;> simp_all [Value.isRef]
theorem vx_isRefq {C n d : String} {A : Nat → Prop} {s : State} {args : Array Value} (h : va_Zq C n d A s s.heap) : (Cond.isRef (.static C n d)).before args s = true := by
  rcases h with h | ⟨t, h⟩
  · exact vx_isRef h rfl
  · exact vx_isRef h rfl
/-- the same frame, seen from here: as if the method were called anew in this heap -/
theorem vx_rebase {T : State} (X : Stand p l e R s m args below meth c T locs cells slots) {R' : Room} (hf : R'.frames ≤ R.frames) (hl : R'.locals ≤ R.locals) (hc : cells + R'.cells ≤ R.cells) (hs : slots + R'.slots ≤ R.slots) :
    Stand p l e R' ((T.setVm s.vm).setFrames (.invoking m args :: below)) m args below meth c T [] 0 0 := by
  have htop : (T.setVm s.vm).topJava?.isSome := X.here.top
  have hF : ((T.setVm s.vm).setFrames (.invoking m args :: below)).frames = .invoking m args :: below := State.frames_setFrames _ (State.cur_lt_of_top htop)
  obtain ⟨g₀, hg0⟩ := Option.isSome_iff_exists.mp htop
  obtain ⟨r, hr⟩ := State.topJava?_eq_some.mp hg0
  have hl9 : e.platform.stackLimits (T.setVm s.vm).me = e.platform.stackLimits s.me := X.limits
  have hb9 : (T.setVm s.vm).me.stackBytes = s.me.stackBytes := X.bytes
  refine ⟨X.admits, X.cas, X.clock, hF, ?_, X.hears, X.method, X.code, X.here, X.tail, X.warmed, ?_, ?_, ?_⟩
  · have h := X.room
    have hU : ((T.setVm s.vm).setFrames (.invoking m args :: below)).localsInUse = s.localsInUse := by
      rw [State.localsInUse_invoking hF (meth := meth) (c := c) X.method X.code, State.localsInUse_invoking X.frames X.method X.code]
    simp only [State.hasRoom, Bool.and_eq_true, decide_eq_true_eq] at h ⊢
    obtain ⟨⟨⟨⟨h1, h2, h3, h4, h5, h6⟩, h7⟩, h8⟩, h9⟩ := h
    rw [X.frames, List.length_cons] at h2 h3
    have q1 := X.heapSize
    have q2 := X.used
    simp only [hF, hU, List.length_cons, State.stackLimits_setFrames, State.stackBytes_setFrames, hl9, hb9]
    refine ⟨⟨⟨⟨by omega, by omega, by omega, by omega, by omega, h6⟩, ?_⟩, ?_⟩, X.book⟩
    · show T.heap.size + R'.cells ≤ e.platform.maxCells
      omega
    · show T.slotsUsed + R'.slots ≤ e.platform.maxSlots
      omega
  · rw [State.stackLimits_setFrames]; rfl
  · rw [State.stackBytes_setFrames]; rfl
  · refine ⟨?_, Nat.le_refl _, Nat.le_refl _, ?_, ?_, fun a c9 h9 => ⟨c9, h9, rfl, rfl, fun _ _ => rfl⟩⟩
    · obtain ⟨t, ht, -⟩ := State.frames_cons hr
      show T.setVm s.vm = { ((T.setVm s.vm).setFrames (.invoking m args :: below)).setFrames (T.setVm s.vm).frames with heap := T.heap, slotsUsed := T.slotsUsed }
      rw [State.setFrames_setFrames, State.setFrames_self ht]
      rfl
    · show T.slotsUsed = T.slotsUsed + ((T.heap.toList.drop T.heap.size).map (·.slots.size)).sum
      rw [List.drop_eq_nil_of_le (Nat.le_of_eq Array.length_toList)]
      rfl
    · show ((T.heap.toList.drop T.heap.size).map (·.slots.size)).sum ≤ 0
      rw [List.drop_eq_nil_of_le (Nat.le_of_eq Array.length_toList)]
      exact Nat.le_refl _
/-- 'throw new E()': new; dup; invokespecial; athrow -/
theorem vx_throw0 {cc : ByteArray} {pc : Nat} (hexec : p.tables.exec = Jvm.exec) (hb : c.code = cc) (hl : l.stackTraces = false) {own cls : String} {names : List String} {ik ic mc ms : Nat} {A : Nat → Prop}
    (hown : s.vm.findClass own = some m.cls) (hcls : Bundle.fit cls = true) (hnames : ∀ n ∈ names, Bundle.fit n = true)
    (hk : (Cond.classLink own ik cls).before args s = true) (hini : (Cond.initialized cls).before args s = true) (hat : ∀ w ∈ vx_at0 own ic cls names, w.before args s = true)
    (hgood : ∀ w ∈ Cond.classLink own ik cls :: Cond.initialized cls :: vx_at0 own ic cls names, vx_ot w = true)
    (hU : vx_Zq Bundle.tN "UNASSIGNED_STACK" Bundle.steD A s s.heap) (hN : vx_Zq Bundle.tN "SUPPRESSED_SENTINEL" Bundle.listD A s s.heap) (hS : va_S A s.heap H locs) (hsize : ls.size = c.maxLocals)
    (d0 : decode cc pc = .ok (.new ik, 3)) (d3 : decode cc (pc + 3) = .ok (.dup, 1)) (d4 : decode cc (pc + 4) = .ok (.invokespecial ic, 3)) (d7 : decode cc (pc + 7) = .ok (.athrow, 1))
    (hout : ∀ x ∈ c.exceptionTable.toList, covers x (pc + 7) = false)
    (hRframes : names.length + 3 < R.frames) (hRlocals : (rest.map fun v => v.category).sum + (13 * (names.length + 1) + 42) ≤ R.locals) (hRcells : cells + 1 ≤ R.cells) (hRslots : slots + 6 ≤ R.slots) (hlocks : meth.locks = false)
    (hx : ∀ t : State, s.vm.Alike t.vm → H.size ≤ t.heap.size → (∀ q : Nat, q < H.size → t.heap[q]? = H[q]?) → XC cls s t)
    (hf : ∀ z ∈ locs, free z.base) (hc : cells + 1 ≤ mc) (hs : slots + 6 ≤ ms) :
    W p l e R s m args below meth c H locs cells slots (vx_MQ below Qc XC args s mc ms free) (F0 m pc ls rest) := by
  intro T hT X
  have htr : e.platform.stackTraces = false := (show e.platform.stackTraces = l.stackTraces by rw [X.admits.platform]).trans hl
  have Y := vx_rebase X (R' := { frames := R.frames, locals := R.locals, cells := 1, slots := 6 }) (Nat.le_refl _) (Nat.le_refl _) hRcells hRslots
  obtain ⟨s', hA⟩ : ∃ z, z = (T.setVm s.vm).setFrames (.invoking m args :: below) := ⟨_, rfl⟩
  rw [← hA] at Y
  have hvm : s'.vm = s.vm := by rw [hA]; rfl
  have hhp : s'.heap = H := by rw [hA]; exact hT
  have hW0 : s.WarmedH s'.vm := by rw [hvm]; exact State.WarmedH.refl s
  have hat' : ∀ w ∈ vx_at0 own ic cls names, w.before args s' = true := fun w hw => vx_ot_at hW0 hvm.symm (hgood w (List.mem_cons_of_mem _ (List.mem_cons_of_mem _ hw))) (hat w hw)
  have hk' : (Cond.classLink own ik cls).before args s' = true := vx_ot_at hW0 hvm.symm (hgood _ List.mem_cons_self) hk
  have hini' : (Cond.initialized cls).before args s' = true := vx_ot_at hW0 hvm.symm (hgood _ (List.mem_cons_of_mem _ List.mem_cons_self)) hini
  have hU' : vx_Zq Bundle.tN "UNASSIGNED_STACK" Bundle.steD A s' s'.heap := by rw [hhp]; exact vx_Zq.moved hW0.alike (hU.kept hS.2.1)
  have hN' : vx_Zq Bundle.tN "SUPPRESSED_SENTINEL" Bundle.listD A s' s'.heap := by rw [hhp]; exact vx_Zq.moved hW0.alike (hN.kept hS.2.1)
  have h : ∀ w ∈ Bundle.ownAtoms0 own ic cls names, w.before args s' = true := vx_own hat' (vx_isRefq hU'.1) (vx_isRefq hN'.1) hU'.2.word hN'.2.word
  have hown' : s'.vm.findClass own = some m.cls := by rw [hvm]; exact hown
  have hins : (Cond.instantiable cls 6).before args s' = true := h _ (by simp [Bundle.ownAtoms0])
  obtain ⟨vm₁, cX, kX, hfX, hkX, -, -, X₁, st1⟩ := Y.newCold hexec (own := own) (C := cls) (index := ik) (n := 6) hown' hk' hins hini'
    (g := F0 m pc ls rest) rfl (by rw [hb]; exact d0) (Nat.le_refl _) (Nat.le_refl _)
  generalize hT1 : (T.setVm vm₁).pushCell { cls := cX, slots := kX.instanceTypes.map defaultValue, vm := .none } = T1 at X₁ st1
  have hcat : (Value.ref T.heap.size).category = 1 := rfl
  have hcellA : T1.heap[T.heap.size]? = some (freshCell cX kX) := by rw [← hT1]; exact State.heap_pushCell_size _ _
  have d3' : decode c.code (pc + 3) = .ok (.dup, 1) := by rw [hb]; exact d3
  obtain ⟨U, hsteps, hrun, hend, hW, hsame, ce, hce, hO⟩ := X₁.ctorThrow0 hexec htr (own := own) (cls := cls) (names := names) (ic := ic) hown' hcls hnames h (fun x hx => nomatch hx) hfX hkX hcellA (by rw [hhp, hT]; exact Nat.le_refl _)
    (g := { method := m, pc := pc + 4, locals := ls, stack := .ref T.heap.size :: .ref T.heap.size :: rest, locked := none }) rfl hsize rfl rfl (rest := rest) rfl
    (by rw [hb]; exact d4) (by rw [hb]; exact d7) hout hRframes (by simp only [List.map_cons, List.sum_cons, hcat]; omega) hlocks
  obtain ⟨f1, f2⟩ := vx_frame hsame
  rw [hhp] at f1 f2
  have hWs : s.WarmedH U.vm := State.WarmedH.trans hW0 hW
  have hcl : s.vm.findClass cls = some ce.cls := by
    have h9 := hO.cls
    rw [hvm] at h9
    exact h9
  have hall : s.sameButNew ({ U with vm := s.vm } : State) locs mc ms := by
    subst hA
    obtain ⟨e1, e2⟩ := hsame
    rw [State.setFrames_setFrames] at e1
    have h2 : (T.setVm s.vm).sameButNew ({ U with vm := s.vm } : State) [] (0 + 1) (0 + 6) := ⟨e1, e2⟩
    have h3 := X.same.trans h2
    rw [List.append_nil] at h3
    exact h3.mono hc hs
  refine ⟨U, ?_, .threw T.heap.size, hrun, hend, Or.inr ⟨T.heap.size, rfl, cls, ce, locs, hx U hWs.alike f1 (fun q hq => f2 q hq (fun z hz => nomatch hz)), hce, hO.vm, hcl, hWs, hall, hf⟩⟩
  refine st1 _ ?_
  show Steps p.tables e below (T1.setTop { method := m, pc := pc + 3, locals := ls, stack := .ref T.heap.size :: rest, locked := none }) _
  jvm_step X₁.here [X₁.here.top, hexec, d3', Value.category]
  exact hsteps
/-- 'throw new E("text")': new; dup; ldc; invokespecial; athrow -/
theorem vx_throwS {cc : ByteArray} {pc : Nat} (hexec : p.tables.exec = Jvm.exec) (hb : c.code = cc) (hl : l.stackTraces = false) {own cls text : String} {names : List String} {ik is ic mc ms sa : Nat} {A : Nat → Prop}
    (hown : s.vm.findClass own = some m.cls) (hcls : Bundle.fit cls = true) (hnames : ∀ n ∈ names, Bundle.fit n = true)
    (hk : (Cond.classLink own ik cls).before args s = true) (hini : (Cond.initialized cls).before args s = true) (hstr : vk_R own is text sa s) (hat : ∀ w ∈ vx_atS own ic cls names, w.before args s = true)
    (hgood : ∀ w ∈ Cond.classLink own ik cls :: Cond.initialized cls :: vx_atS own ic cls names, vx_ot w = true)
    (hU : vx_Zq Bundle.tN "UNASSIGNED_STACK" Bundle.steD A s s.heap) (hN : vx_Zq Bundle.tN "SUPPRESSED_SENTINEL" Bundle.listD A s s.heap) (hS : va_S A s.heap H locs) (hsize : ls.size = c.maxLocals)
    (d0 : decode cc pc = .ok (.new ik, 3)) (d3 : decode cc (pc + 3) = .ok (.dup, 1)) (d4 : decode cc (pc + 4) = .ok (.ldc is, 2)) (d6 : decode cc (pc + 6) = .ok (.invokespecial ic, 3)) (d9 : decode cc (pc + 9) = .ok (.athrow, 1))
    (hout : ∀ x ∈ c.exceptionTable.toList, covers x (pc + 9) = false)
    (hRframes : names.length + 3 < R.frames) (hRlocals : (rest.map fun v => v.category).sum + (13 * (names.length + 1) + 43) ≤ R.locals) (hRcells : cells + 1 ≤ R.cells) (hRslots : slots + 6 ≤ R.slots) (hlocks : meth.locks = false)
    (hx : ∀ t : State, s.vm.Alike t.vm → H.size ≤ t.heap.size → (∀ q : Nat, q < H.size → t.heap[q]? = H[q]?) → XC cls s t)
    (hf : ∀ z ∈ locs, free z.base) (hc : cells + 1 ≤ mc) (hs : slots + 6 ≤ ms) :
    W p l e R s m args below meth c H locs cells slots (vx_MQ below Qc XC args s mc ms free) (F0 m pc ls rest) := by
  intro T hT X
  have htr : e.platform.stackTraces = false := (show e.platform.stackTraces = l.stackTraces by rw [X.admits.platform]).trans hl
  have Y := vx_rebase X (R' := { frames := R.frames, locals := R.locals, cells := 1, slots := 6 }) (Nat.le_refl _) (Nat.le_refl _) hRcells hRslots
  obtain ⟨s', hA⟩ : ∃ z, z = (T.setVm s.vm).setFrames (.invoking m args :: below) := ⟨_, rfl⟩
  rw [← hA] at Y
  have hvm : s'.vm = s.vm := by rw [hA]; rfl
  have hhp : s'.heap = H := by rw [hA]; exact hT
  have hW0 : s.WarmedH s'.vm := by rw [hvm]; exact State.WarmedH.refl s
  have hat' : ∀ w ∈ vx_atS own ic cls names, w.before args s' = true := fun w hw => vx_ot_at hW0 hvm.symm (hgood w (List.mem_cons_of_mem _ (List.mem_cons_of_mem _ hw))) (hat w hw)
  have hk' : (Cond.classLink own ik cls).before args s' = true := vx_ot_at hW0 hvm.symm (hgood _ List.mem_cons_self) hk
  have hini' : (Cond.initialized cls).before args s' = true := vx_ot_at hW0 hvm.symm (hgood _ (List.mem_cons_of_mem _ List.mem_cons_self)) hini
  have hU' : vx_Zq Bundle.tN "UNASSIGNED_STACK" Bundle.steD A s' s'.heap := by rw [hhp]; exact vx_Zq.moved hW0.alike (hU.kept hS.2.1)
  have hN' : vx_Zq Bundle.tN "SUPPRESSED_SENTINEL" Bundle.listD A s' s'.heap := by rw [hhp]; exact vx_Zq.moved hW0.alike (hN.kept hS.2.1)
  have h : ∀ w ∈ Bundle.ownAtoms own ic cls names, w.before args s' = true := vx_own hat' (vx_isRefq hU'.1) (vx_isRefq hN'.1) hU'.2.word hN'.2.word
  have hown' : s'.vm.findClass own = some m.cls := by rw [hvm]; exact hown
  have hins : (Cond.instantiable cls 6).before args s' = true := h _ (by simp [Bundle.ownAtoms])
  obtain ⟨vm₁, cX, kX, hfX, hkX, -, -, X₁, st1⟩ := Y.newCold hexec (own := own) (C := cls) (index := ik) (n := 6) hown' hk' hins hini'
    (g := F0 m pc ls rest) rfl (by rw [hb]; exact d0) (Nat.le_refl _) (Nat.le_refl _)
  generalize hT1 : (T.setVm vm₁).pushCell { cls := cX, slots := kX.instanceTypes.map defaultValue, vm := .none } = T1 at X₁ st1
  have hcat : (Value.ref T.heap.size).category = 1 := rfl
  have hcellA : T1.heap[T.heap.size]? = some (freshCell cX kX) := by rw [← hT1]; exact State.heap_pushCell_size _ _
  have d3' : decode c.code (pc + 3) = .ok (.dup, 1) := by rw [hb]; exact d3
  have d4' : decode c.code (pc + 4) = .ok (.ldc is, 2) := by rw [hb]; exact d4
  have hstr' : vk_R own is text sa s' := vk_R.warm hW0 hstr
  obtain ⟨U, hsteps, hrun, hend, hW, hsame, ce, hce, hO⟩ := X₁.ctorThrowS hexec htr (own := own) (cls := cls) (names := names) (ic := ic) hown' hcls hnames h (fun x hx => nomatch hx) hfX hkX hcellA (by rw [hhp, hT]; exact Nat.le_refl _) (msg := .ref sa) rfl
    (g := { method := m, pc := pc + 6, locals := ls, stack := .ref sa :: .ref T.heap.size :: .ref T.heap.size :: rest, locked := none }) rfl hsize rfl rfl (rest := rest) rfl
    (by rw [hb]; exact d6) (by rw [hb]; exact d9) hout hRframes (by simp only [List.map_cons, List.sum_cons, hcat]; omega) hlocks
  obtain ⟨f1, f2⟩ := vx_frame hsame
  rw [hhp] at f1 f2
  have hWs : s.WarmedH U.vm := State.WarmedH.trans hW0 hW
  have hcl : s.vm.findClass cls = some ce.cls := by
    have h9 := hO.cls
    rw [hvm] at h9
    exact h9
  have hall : s.sameButNew ({ U with vm := s.vm } : State) locs mc ms := by
    subst hA
    obtain ⟨e1, e2⟩ := hsame
    rw [State.setFrames_setFrames] at e1
    have h2 : (T.setVm s.vm).sameButNew ({ U with vm := s.vm } : State) [] (0 + 1) (0 + 6) := ⟨e1, e2⟩
    have h3 := X.same.trans h2
    rw [List.append_nil] at h3
    exact h3.mono hc hs
  refine ⟨U, ?_, .threw T.heap.size, hrun, hend, Or.inr ⟨T.heap.size, rfl, cls, ce, locs, hx U hWs.alike f1 (fun q hq => f2 q hq (fun z hz => nomatch hz)), hce, hO.vm, hcl, hWs, hall, hf⟩⟩
  refine st1 _ ?_
  show Steps p.tables e below (T1.setTop { method := m, pc := pc + 3, locals := ls, stack := .ref T.heap.size :: rest, locked := none }) _
  jvm_step X₁.here [X₁.here.top, hexec, d3', Value.category]
  exact X₁.ldcString hexec (own := own) (text := text) (index := is) (a := sa) hown' hstr'.1 hstr'.2
    (g := { method := m, pc := pc + 4, locals := ls, stack := .ref T.heap.size :: .ref T.heap.size :: rest, locked := none }) rfl d4' _ hsteps
/-- 'throw new E("text")', the text by a wide index -/
theorem vx_throwSW {cc : ByteArray} {pc : Nat} (hexec : p.tables.exec = Jvm.exec) (hb : c.code = cc) (hl : l.stackTraces = false) {own cls text : String} {names : List String} {ik is ic mc ms sa : Nat} {A : Nat → Prop}
    (hown : s.vm.findClass own = some m.cls) (hcls : Bundle.fit cls = true) (hnames : ∀ n ∈ names, Bundle.fit n = true)
    (hk : (Cond.classLink own ik cls).before args s = true) (hini : (Cond.initialized cls).before args s = true) (hstr : vk_R own is text sa s) (hat : ∀ w ∈ vx_atS own ic cls names, w.before args s = true)
    (hgood : ∀ w ∈ Cond.classLink own ik cls :: Cond.initialized cls :: vx_atS own ic cls names, vx_ot w = true)
    (hU : vx_Zq Bundle.tN "UNASSIGNED_STACK" Bundle.steD A s s.heap) (hN : vx_Zq Bundle.tN "SUPPRESSED_SENTINEL" Bundle.listD A s s.heap) (hS : va_S A s.heap H locs) (hsize : ls.size = c.maxLocals)
    (d0 : decode cc pc = .ok (.new ik, 3)) (d3 : decode cc (pc + 3) = .ok (.dup, 1)) (d4 : decode cc (pc + 4) = .ok (.ldc_w is, 3)) (d7 : decode cc (pc + 7) = .ok (.invokespecial ic, 3)) (d10 : decode cc (pc + 10) = .ok (.athrow, 1))
    (hout : ∀ x ∈ c.exceptionTable.toList, covers x (pc + 10) = false)
    (hRframes : names.length + 3 < R.frames) (hRlocals : (rest.map fun v => v.category).sum + (13 * (names.length + 1) + 43) ≤ R.locals) (hRcells : cells + 1 ≤ R.cells) (hRslots : slots + 6 ≤ R.slots) (hlocks : meth.locks = false)
    (hx : ∀ t : State, s.vm.Alike t.vm → H.size ≤ t.heap.size → (∀ q : Nat, q < H.size → t.heap[q]? = H[q]?) → XC cls s t)
    (hf : ∀ z ∈ locs, free z.base) (hc : cells + 1 ≤ mc) (hs : slots + 6 ≤ ms) :
    W p l e R s m args below meth c H locs cells slots (vx_MQ below Qc XC args s mc ms free) (F0 m pc ls rest) := by
  intro T hT X
  have htr : e.platform.stackTraces = false := (show e.platform.stackTraces = l.stackTraces by rw [X.admits.platform]).trans hl
  have Y := vx_rebase X (R' := { frames := R.frames, locals := R.locals, cells := 1, slots := 6 }) (Nat.le_refl _) (Nat.le_refl _) hRcells hRslots
  obtain ⟨s', hA⟩ : ∃ z, z = (T.setVm s.vm).setFrames (.invoking m args :: below) := ⟨_, rfl⟩
  rw [← hA] at Y
  have hvm : s'.vm = s.vm := by rw [hA]; rfl
  have hhp : s'.heap = H := by rw [hA]; exact hT
  have hW0 : s.WarmedH s'.vm := by rw [hvm]; exact State.WarmedH.refl s
  have hat' : ∀ w ∈ vx_atS own ic cls names, w.before args s' = true := fun w hw => vx_ot_at hW0 hvm.symm (hgood w (List.mem_cons_of_mem _ (List.mem_cons_of_mem _ hw))) (hat w hw)
  have hk' : (Cond.classLink own ik cls).before args s' = true := vx_ot_at hW0 hvm.symm (hgood _ List.mem_cons_self) hk
  have hini' : (Cond.initialized cls).before args s' = true := vx_ot_at hW0 hvm.symm (hgood _ (List.mem_cons_of_mem _ List.mem_cons_self)) hini
  have hU' : vx_Zq Bundle.tN "UNASSIGNED_STACK" Bundle.steD A s' s'.heap := by rw [hhp]; exact vx_Zq.moved hW0.alike (hU.kept hS.2.1)
  have hN' : vx_Zq Bundle.tN "SUPPRESSED_SENTINEL" Bundle.listD A s' s'.heap := by rw [hhp]; exact vx_Zq.moved hW0.alike (hN.kept hS.2.1)
  have h : ∀ w ∈ Bundle.ownAtoms own ic cls names, w.before args s' = true := vx_own hat' (vx_isRefq hU'.1) (vx_isRefq hN'.1) hU'.2.word hN'.2.word
  have hown' : s'.vm.findClass own = some m.cls := by rw [hvm]; exact hown
  have hins : (Cond.instantiable cls 6).before args s' = true := h _ (by simp [Bundle.ownAtoms])
  obtain ⟨vm₁, cX, kX, hfX, hkX, -, -, X₁, st1⟩ := Y.newCold hexec (own := own) (C := cls) (index := ik) (n := 6) hown' hk' hins hini'
    (g := F0 m pc ls rest) rfl (by rw [hb]; exact d0) (Nat.le_refl _) (Nat.le_refl _)
  generalize hT1 : (T.setVm vm₁).pushCell { cls := cX, slots := kX.instanceTypes.map defaultValue, vm := .none } = T1 at X₁ st1
  have hcat : (Value.ref T.heap.size).category = 1 := rfl
  have hcellA : T1.heap[T.heap.size]? = some (freshCell cX kX) := by rw [← hT1]; exact State.heap_pushCell_size _ _
  have d3' : decode c.code (pc + 3) = .ok (.dup, 1) := by rw [hb]; exact d3
  have d4' : decode c.code (pc + 4) = .ok (.ldc_w is, 3) := by rw [hb]; exact d4
  have hstr' : vk_R own is text sa s' := vk_R.warm hW0 hstr
  obtain ⟨U, hsteps, hrun, hend, hW, hsame, ce, hce, hO⟩ := X₁.ctorThrowS hexec htr (own := own) (cls := cls) (names := names) (ic := ic) hown' hcls hnames h (fun x hx => nomatch hx) hfX hkX hcellA (by rw [hhp, hT]; exact Nat.le_refl _) (msg := .ref sa) rfl
    (g := { method := m, pc := pc + 7, locals := ls, stack := .ref sa :: .ref T.heap.size :: .ref T.heap.size :: rest, locked := none }) rfl hsize rfl rfl (rest := rest) rfl
    (by rw [hb]; exact d7) (by rw [hb]; exact d10) hout hRframes (by simp only [List.map_cons, List.sum_cons, hcat]; omega) hlocks
  obtain ⟨f1, f2⟩ := vx_frame hsame
  rw [hhp] at f1 f2
  have hWs : s.WarmedH U.vm := State.WarmedH.trans hW0 hW
  have hcl : s.vm.findClass cls = some ce.cls := by
    have h9 := hO.cls
    rw [hvm] at h9
    exact h9
  have hall : s.sameButNew ({ U with vm := s.vm } : State) locs mc ms := by
    subst hA
    obtain ⟨e1, e2⟩ := hsame
    rw [State.setFrames_setFrames] at e1
    have h2 : (T.setVm s.vm).sameButNew ({ U with vm := s.vm } : State) [] (0 + 1) (0 + 6) := ⟨e1, e2⟩
    have h3 := X.same.trans h2
    rw [List.append_nil] at h3
    exact h3.mono hc hs
  refine ⟨U, ?_, .threw T.heap.size, hrun, hend, Or.inr ⟨T.heap.size, rfl, cls, ce, locs, hx U hWs.alike f1 (fun q hq => f2 q hq (fun z hz => nomatch hz)), hce, hO.vm, hcl, hWs, hall, hf⟩⟩
  refine st1 _ ?_
  show Steps p.tables e below (T1.setTop { method := m, pc := pc + 3, locals := ls, stack := .ref T.heap.size :: rest, locked := none }) _
  jvm_step X₁.here [X₁.here.top, hexec, d3', Value.category]
  exact X₁.ldcStringW hexec (own := own) (text := text) (index := is) (a := sa) hown' hstr'.1 hstr'.2
    (g := { method := m, pc := pc + 4, locals := ls, stack := .ref T.heap.size :: .ref T.heap.size :: rest, locked := none }) rfl d4' _ hsteps
end Ends
section Bodies
variable {l : Launch}
theorem vx_ofW {y : MethodName} {ws ws' : List Cond} {rm : Room} {Pc : Array Value → State → Prop} {Qc : Array Value → State → Outcome → State → Prop} {XC : String → State → State → Prop} {mc ms : Nat} {free : Addr → Prop} {cc : ByteArray} {maxL : Nat} {ret : Option FieldType}
    (hy : plainName y.cls = true) (hw : ws = Cond.code y cc maxL ret :: ws')
    (body : ∀ p e s m args below meth c s₁, BodyLoose p l y (headSpec ws rm) cc maxL ret e s m args below meth c s₁ → c.maxLocals = maxL → (∀ x ∈ c.exceptionTable.toList, False) → Pc args s →
      W p l e (headSpec ws rm).room s m args below meth c s.heap [] 0 0 (vx_MQ below Qc XC args s mc ms free) (entryFrame m args maxL)) : vx_Met l y ws rm Pc Qc XC mc ms free := by
  refine MetFree.of_bodyS (code := cc) (maxLocals := maxL) (ret := ret) hy ?_ ?_
  · intro args s m h hn
    obtain ⟨meth, c, h1, h2, h3, h4, h5, h6, -, -⟩ := Cond.code_spec hn (atoms_spec (ws := ws) h _ (by rw [hw]; exact List.mem_cons_self))
    exact ⟨meth, c, h1, h2, h3, h4, h5, h6⟩
  · intro p e s m args below meth c s₁ B hml hP _
    have hh0 : s₁.heap = s.heap := by rw [B.state]; rfl
    have ht : ∀ x ∈ c.exceptionTable.toList, False := by
      obtain ⟨meth9, c9, h1, h2, -, -, -, -, h7, -⟩ := Cond.code_spec B.named (atoms_spec (ws := ws) B.pre _ (by rw [hw]; exact List.mem_cons_self))
      cases Option.some.inj (h1.symm.trans B.method)
      cases Option.some.inj (h2.symm.trans (Stand.of_body B).code)
      intro x hx
      rw [Array.isEmpty_iff.mp h7] at hx
      cases hx
    obtain ⟨t, a1, o, b1, b2, b3⟩ := body p e s m args below meth c s₁ B hml ht hP s₁ hh0 (Stand.of_body B)
    exact ⟨t, o, a1, b1, b2, b3⟩
/-- the table of a body with handlers -/
theorem vx_table {p : Program} {x y : MethodName} {S : Spec} {cc bytes : ByteArray} {maxL maxL' : Nat} {ret ret' : Option FieldType} {e : Env} {s s₁ : State} {m : MethodId} {args : Array Value} {below : List Frame} {meth : Method} {c : Code} {hh : List (Nat × Nat × Nat × Nat)}
    (B : BodyLoose p l y S cc maxL ret e s m args below meth c s₁) (h : (Cond.codeWith y bytes maxL' ret' hh).before args s = true) : c.exceptionTable.toList = tableOf hh := by
  obtain ⟨m9, meth9, c9, hn9, h1, h2, -, -, h6, -⟩ := Cond.codeWith_spec h
  cases Option.some.inj (hn9.symm.trans B.named)
  cases Option.some.inj (h1.symm.trans B.method)
  cases Option.some.inj (h2.symm.trans (Stand.of_body B).code)
  rw [← h6, table_eq]
end Bodies
end VXA
/-! ===== END ===== -/
/-! ===== BEGIN a static call of a method with an exception table ===== -/
section VXS
variable {p : Program} {l : Launch} {e : Env} {R : Room} {s : State} {m : MethodId} {args : Array Value} {below : List Frame} {meth : Method} {c : Code} {T : State} {H : Heap} {locs : List Loc} {cells slots : Nat}
abbrev vx_CSW (R : Room) (s : State) (args : Array Value) (own : String) (index : Nat) (y : MethodName) (bytes : ByteArray) (maxL : Nat) (ret : Option FieldType) (hh : List (Nat × Nat × Nat × Nat)) (ws : List Cond) (rm : Room) (mc ms n : Nat) : Prop :=
  (rm.cells = mc ∧ rm.slots = ms ∧ rm.frames + 1 ≤ R.frames ∧ 8 + (maxL + 11) + rm.locals ≤ R.locals ∧ (∀ w ∈ ws, ∀ (a' : Array Value) (U : State), s.WarmedH U.vm → w.before a' U = true) ∧ Cond.codeWith y bytes maxL ret hh ∈ ws) ∧
  (Cond.codeWith y bytes maxL ret hh).before args s = true ∧ (Cond.initialized y.cls).before args s = true ∧ (y.cls ≠ "java/lang/invoke/MethodHandle" ∧ y.cls ≠ "java/lang/invoke/VarHandle") ∧
  (∀ sig, parseMethodDescriptor y.desc = some sig → n = sig.parameters.length) ∧ (Cond.methodLink own index y).before args s = true ∧ (Cond.static y).before args s = true
theorem vx_cwSW {own : String} {index maxL mc ms : Nat} {y : MethodName} {bytes : ByteArray} {ret : Option FieldType} {hh : List (Nat × Nat × Nat × Nat)} {Ts ws ws' : List Cond} {rm : Room} (n : Nat) (ht : ∀ w ∈ Ts, w.before args s = true) (hT : GoodIn Ts (va_wsS own index y ws)) (hw : ws = Cond.codeWith y bytes maxL ret hh :: ws') (hrc : rm.cells = mc) (hrs : rm.slots = ms)
    (hd : y.cls ≠ "java/lang/invoke/MethodHandle" ∧ y.cls ≠ "java/lang/invoke/VarHandle" ∧ (parseMethodDescriptor y.desc).map (fun d => d.parameters.length) = some n) (hR : rm.frames + 1 ≤ R.frames ∧ 8 + (maxL + 11) + rm.locals ≤ R.locals) :
    vx_CSW R s args own index y bytes maxL ret hh ws rm mc ms n := by
  have ok : ∀ w ∈ va_wsS own index y ws, w.before args s = true := fun w h => ht w (hT w h).1
  have hG : GoodIn Ts ws := fun w h => hT w (by unfold va_wsS; exact List.mem_append_right _ h)
  have hc : Cond.codeWith y bytes maxL ret hh ∈ ws := by rw [hw]; exact List.mem_cons_self
  refine ⟨⟨hrc, hrs, hR.1, hR.2, pay_in ht hG, hc⟩, ht _ (hG _ hc).1, ok _ (by simp [va_wsS]), ⟨hd.1, hd.2.1⟩, fun sig h => ?_, ok _ (by simp [va_wsS]), ok _ (by simp [va_wsS])⟩
  have h2 := hd.2.2
  rw [h] at h2
  exact (Option.some.inj h2).symm
theorem vx_callSW (X : Stand p l e R s m args below meth c T locs cells slots) (hexec : p.tables.exec = Jvm.exec) {own : String} {index : Nat} {y : MethodName} {bytes : ByteArray} {maxL : Nat} {ret : Option FieldType} {hh : List (Nat × Nat × Nat × Nat)}
    (hown : s.vm.findClass own = some m.cls) (hlink : (Cond.methodLink own index y).before args s = true) (hstat : (Cond.static y).before args s = true) (hinit : (Cond.initialized y.cls).before args s = true)
    (hcode : (Cond.codeWith y bytes maxL ret hh).before args s = true) (hy : y.cls ≠ "java/lang/invoke/MethodHandle" ∧ y.cls ≠ "java/lang/invoke/VarHandle")
    {W9 : Nat} {Pre : Pt → Array Value → Prop} {Post : Pt → Array Value → Option Value → Pt → Prop} (hK : Back l R p e below s args y 3 W9 Pre Post)
    {g : JFrame} (hg : g.method = m) (hsize : g.locals.size = c.maxLocals) {argsL rest : List Value} (hlen : ∀ sig, parseMethodDescriptor y.desc = some sig → argsL.length = sig.parameters.length)
    (hstack : g.stack = argsL.reverse ++ rest) (hW : 2 * g.monitorRoom + (rest.map fun v => v.category).sum ≤ W9) (hdg : decode c.code g.pc = .ok (.invokestatic index, 3))
    (hpre : ∀ vm₁, s.WarmedH vm₁ → Pre ⟨T.setVm vm₁, locs, cells, slots⟩ argsL.toArray) :
    ∃ (v : Option Value) (vm₁ : Vm) (B : Pt), s.WarmedH vm₁ ∧ Stand p l e R s m args below meth c B.U B.locs B.cells B.slots ∧ Post ⟨T.setVm vm₁, locs, cells, slots⟩ argsL.toArray v B ∧
      ∀ target, Steps p.tables e below (B.U.setTop { g with pc := g.pc + 3, stack := v.toList ++ rest }) target → Steps p.tables e below (T.setTop g) target := by
  obtain ⟨mk, methM, cM, hnamed, hmethM, -, -, -, -, -, -, hsigM⟩ := Cond.codeWith_spec hcode
  have hstatic : methM.isStatic = true := Cond.static_spec hnamed hmethM hstat
  obtain ⟨kP, hkP, -⟩ := className_of_methodNamed hnamed
  have hinitP : kP.init = .initialized := Cond.initialized_spec (findClass_of_methodNamed hnamed) hkP hinit
  obtain ⟨vm₁, X₁, hstep₁⟩ := X.invokestatic hexec hown hlink hnamed hmethM hstatic hkP hinitP hy (g := g) hg (argsL := argsL) (rest := rest) (hlen _ hsigM) hstack hdg
  obtain ⟨v, B, X', hpost, hsteps⟩ := hK m meth c ⟨T.setVm vm₁, locs, cells, slots⟩ { g with stack := rest } (.invokestatic index) mk argsL.toArray X₁ hg hsize hdg hW (X₁.named hnamed) (hpre vm₁ X₁.warmed)
  exact ⟨v, vm₁, B, X₁.warmed, X', hpost, fun target h => hstep₁ _ fun acts => by rw [doInvoke_state]; exact hsteps.trans h⟩
theorem vx_runSW {y : MethodName} {bytes cc : ByteArray} {maxL nL mc ms n index : Nat} {ret : Option FieldType} {hh : List (Nat × Nat × Nat × Nat)} {ws : List Cond} {rm : Room} {Pc : Array Value → State → Prop} {Qc : Array Value → State → Outcome → State → Prop} {free : Addr → Prop} {Ts : List Cond} {own : String} {As rest : List Value} {g : JFrame}
    (S : CallFix p m c cc nL s args Ts own) (hM : Met l y ws rm Pc Qc mc ms free) (cw : vx_CSW R s args own index y bytes maxL ret hh ws rm mc ms n) (hp : PreS s H Pc As)
    (hg : g.method = m) (hn : As.length = n) (hsize : g.locals.size = nL) (hstack : g.stack = As.reverse ++ rest) (hW : 2 * g.monitorRoom + (rest.map fun v => v.category).sum ≤ 8) (hdg : decode cc g.pc = .ok (.invokestatic index, 3)) (hf : cells + mc ≤ R.cells ∧ slots + ms ≤ R.slots) :
    va_Run p l e R s m args below meth c H locs cells slots mc ms g rest (Qc As.toArray) (free) := by
  obtain ⟨⟨hrc, hrs, hfr, hlo, hws, hcw⟩, hcode, hini, hy, hlen, hl, hstt⟩ := cw
  have hK : Back l R p e below s args y 3 8 (PreOf R mc ms Pc) (PostOf Qc mc ms free) := va_backW (hh := hh) (bytes := bytes) (maxL := maxL) (ret := ret) hM hp.1 hrc hrs hfr hlo hws hcw (fun a' U hW => word_at hW (Or.inl (by first | rfl | simp [Cond.onTables, Cond.keeps, Cond.steady])) hini)
  obtain ⟨hx, hb, hml, ho, -⟩ := S
  intro T hT X
  obtain ⟨v, vm₁, ⟨U', l2, c2, s2⟩, hW₁, X', ⟨g', mk, t, L, e1, e2, hq, h1, hL, h2, h3⟩, st⟩ := vx_callSW X hx (hh := hh) (bytes := bytes) (maxL := maxL) (ret := ret) ho hl hstt hini hcode hy hK hg (hsize.trans hml.symm) (argsL := As) (rest := rest) (fun sig h => hn.trans (hlen sig h)) hstack hW (by rw [hb]; exact hdg)
    (fun vm₁ hW₁ => ⟨hf.1, hf.2, hp.2 (T.setVm vm₁) hT hW₁⟩)
  dsimp only [Pt.U, Pt.locs, Pt.cells, Pt.slots] at X' e1 e2 h1 h2 h3 st
  subst h1; subst h2; subst h3
  exact ⟨v, (T.setVm vm₁).calling g' mk As.toArray, t, U', L, hT, X', hL, e1, e2, hq, st⟩
/-- not caught here, past rows that name other classes: it goes on to the caller -/
theorem vx_outP {p : Program} {l : Launch} {e : Env} {R : Room} {s : State} {m : MethodId} {args : Array Value} {below : List Frame} {meth : Method} {c : Code} {H : Heap} {locs : List Loc} {cells slots : Nat} {free : Addr → Prop} {ls : Array Slot} {rest : List Value} {Qc : Array Value → State → Outcome → State → Prop} {XC : String → State → State → Prop}
    {pc : Nat} {own E : String} {ce : Cell} {q : Addr} {mc ms : Nat} (hown : s.vm.findClass own = some m.cls) (hlocks : meth.locks = false)
    (hpass : ∀ z ∈ c.exceptionTable.toList, covers z pc = false ∨ (z.catchType ≠ 0 ∧ ∃ nm : String, (Cond.classLink own z.catchType nm).before args s = true ∧ va_Nc E nm s)) (hcell : H[q]? = some ce) (hv : ce.vm = .none) (hcl : s.vm.findClass E = some ce.cls)
    (hx : ∀ t : State, t.heap = H → s.vm.Alike t.vm → XC E s t) (hf : ∀ z ∈ locs, free z.base) (hc : cells ≤ mc) (hs : slots ≤ ms) :
    vx_W p l e R s m args below meth c H locs cells slots (vx_MQ below Qc XC args s mc ms free) (F0 m pc ls rest) q := by
  intro T hT X
  have hpl : e.platform.magicAccessors = ({} : Platform).magicAccessors := by rw [X.admits.platform]
  obtain ⟨vm', hW', X', st⟩ := X.outThrough hlocks q (g := F0 m pc ls rest) rfl rfl rfl (cell := ce) (by rw [hT]; exact hcell) (by rw [hv]; rfl)
    (by obtain ⟨k9, h9, -⟩ := Vm.findClass_spec hcl; exact ⟨k9, h9⟩) (fun z hz => by
      rcases hpass z hz with h | ⟨hz0, nm, hl1, hn1⟩
      · exact Or.inl h
      · obtain ⟨c6, hc6, hcl6⟩ := Cond.classLink_spec hown hl1 e.platform hpl
        obtain ⟨a8, b8, h1, h2, h3⟩ := hn1
        cases Option.some.inj (h1.symm.trans hcl)
        cases Option.some.inj (h2.symm.trans hc6)
        exact Or.inr ⟨hz0, _, hcl6, h3⟩)
  obtain ⟨g₀, hfr⟩ := X'.frames_eq
  have hcell9 : ((T.setVm vm').setFrames (.throwing q :: below)).heap[q]? = some ce := by
    show T.heap[q]? = some ce
    rw [hT]; exact hcell
  have hend : Ended ((T.setVm vm').setFrames (.throwing q :: below)) below (.threw q) := State.frames_setFrames _ (State.cur_lt_of_frames hfr)
  refine ⟨(T.setVm vm').setFrames (.throwing q :: below), ?_, .threw q, X'.here.running, hend, Or.inr ⟨q, rfl, E, ce, locs, hx _ hT (X'.ends _).1.alike, hcell9, hv, hcl, (X'.ends _).1, (X'.ends _).2.mono hc hs, hf⟩⟩
  rw [X.pushThrowing_eq]
  exact st
/-- a thing of a world lies in the heap -/
theorem vx_lt {D : va_G} {cl : List vw_C} {ws : va_W} {H1 : Heap} (h : va_P D cl ws H1) {k : Nat} {q : Nat × va_E} (hk : ws[k]? = some q) : q.1 < H1.size := (h k q hk).lt
end VXS
/-! ===== END ===== -/
/-! ===== BEGIN methods with a table of their own: called by a name, returning or throwing ===== -/
section VXH
/-! vx_backW, vx_callVX, vx_callSX, vx_callVW, vx_runVW, vx_runVX, vx_runSX, vx_ofWH follow the same proofs as their sisters above (Free/Laws.lean, Shelf42/LK1.lean); vx_outP calls Shelf42/NT130.lean (outThrough). -/
section
variable {l : Launch} {R : Room} {p : Program} {e : Env} {below : List Frame} {s : State} {sargs : Array Value} {y : MethodName} {len W9 : Nat}
theorem vx_backW {ws : List Cond} {rm : Room} {Pc : Array Value → State → Prop} {Qc : Array Value → State → Outcome → State → Prop} {XC : String → State → State → Prop} {mc ms : Nat} {free : Addr → Prop} {bytes : ByteArray} {maxL : Nat} {ret : Option FieldType} {hh : List (Nat × Nat × Nat × Nat)}
    (hM : vx_Met l y ws rm Pc Qc XC mc ms free) (hblind : FrameBlind Pc) (hrc : rm.cells = mc) (hrs : rm.slots = ms)
    (hframes : rm.frames + 1 ≤ R.frames) (hlocals : W9 + (maxL + 11) + rm.locals ≤ R.locals)
    (hws : ∀ w ∈ ws, ∀ a' U, s.WarmedH U.vm → w.before a' U = true) (hcode : Cond.codeWith y bytes maxL ret hh ∈ ws) (hinit : ∀ a' U, s.WarmedH U.vm → (Cond.initialized y.cls).before a' U = true) :
    vx_Back l R p e below s sargs y len W9 (PreOf R mc ms Pc) (PostOf Qc mc ms free) (vx_Post XC mc ms free) := by
  intro m meth c A g ig mk a X hg hsize hdg hW hn hp
  have h1 : (headSpec ws rm).pre.before a A.U = true := atoms_intro fun w hw => hws w hw _ _ X.warmed
  have h2 : (Cond.codeWith y bytes maxL ret hh).before a A.U = true := hws _ hcode _ _ X.warmed
  have h3 : (Cond.initialized y.cls).before a A.U = true := hinit _ _ X.warmed
  have h4 : A.cells + (headSpec ws rm).room.cells ≤ R.cells := by rw [show (headSpec ws rm).room.cells = mc from hrc]; exact hp.1
  have h5 : A.slots + (headSpec ws rm).room.slots ≤ R.slots := by rw [show (headSpec ws rm).room.slots = ms from hrs]; exact hp.2.1
  have hPc : Pc a (A.U.calling g mk a) := hblind _ _ _ _ hp.2.2
  obtain ⟨U, Ls, c0, s0⟩ := A
  dsimp only [Pt.U, Pt.locs, Pt.cells, Pt.slots] at h1 h2 h3 h4 h5 X hn hPc ⊢
  obtain ⟨m9, methY, cY, hn9, hmY, hcY, -, hlY, -⟩ := Cond.codeWith_spec h2
  cases Option.some.inj (hn9.symm.trans hn)
  obtain ⟨kY, hkY, -⟩ := className_of_methodNamed hn
  have hinitY : kY.init = .initialized := Cond.initialized_spec (findClass_of_methodNamed hn) hkY h3
  have h : At U g.method c below := by rw [hg]; exact X.here
  have hlocals9 : W9 + (maxL + 11) + (headSpec ws rm).room.locals ≤ R.locals := hlocals
  have happ : (headSpec ws rm).appliesLoose y e.platform (U.calling g mk a) = true :=
    Spec.appliesLoose_calling (g := g) h hdg hn hkY hinitY
      (X.room_calling (g := g) (R' := (headSpec ws rm).room) hsize hmY hcY hframes (by rw [hlY]; omega) h4 h5) h1
  obtain ⟨mid, hmid⟩ := h.above
  have hfr : (U.setTop g).frames = (.java g :: mid) ++ below := by rw [State.frames_setTop' g h.top, hmid]; rfl
  obtain ⟨o, s₂, hsteps, -, hend, hq⟩ := Steps.callFree hM p X.admits X.cas X.clock (acts := []) hfr happ hPc trivial
  have hq' : vx_Q Qc XC mc ms free a (U.calling g mk a) o s₂ := hq
  rw [State.frames_setTop' g h.top] at hend
  obtain ⟨g₀, hg0⟩ := Option.isSome_iff_exists.mp h.top
  obtain ⟨r, hr⟩ := State.topJava?_eq_some.mp hg0
  have hr' : (({ U with heap := s₂.heap, slotsUsed := s₂.slotsUsed } : State).setVm s₂.vm).frames = .java g₀ :: r := hr
  rcases hq' with ⟨hqc, L, hfe, hL⟩ | ⟨q, rfl, E, ce, L, hx, hce, hcv, hcl, hW₂, hsm, hL⟩
  · obtain ⟨⟨v, rfl⟩, hW₂, e2, q2, q3, q4, q5, q6⟩ := id hfe
    have e3 : s₂ = ({ (U.calling g mk a).setFrames s₂.frames with heap := s₂.heap, slotsUsed := s₂.slotsUsed } : State).setVm s₂.vm := by
      have : s₂ = ({ s₂ with vm := (U.calling g mk a).vm } : State).setVm s₂.vm := rfl
      rw [e2] at this
      exact this
    obtain ⟨c₂, i₂, len₂, hc₂, hd₂, hf₂⟩ := hend
    have hW' : U.WarmedH s₂.vm := hW₂
    have hcc : c₂ = c := by
      have h1 : s₂.code? g.method = U.code? g.method := by
        rw [State.code?_eq, State.code?_eq, hW'.alike.method?]
      exact Option.some.inj (hc₂.symm.trans (h1.trans h.code))
    subst hcc
    have hlen : len₂ = len := by rw [hdg] at hd₂; cases hd₂; rfl
    subst hlen
    have hs₂ : s₂ = (({ U with heap := s₂.heap, slotsUsed := s₂.slotsUsed } : State).setVm s₂.vm).setTop { g with pc := g.pc + len₂, stack := v.toList ++ g.stack } := by
      refine e3.trans ?_
      rw [hf₂, State.calling_eq h.top, State.setFrames_setFrames, State.setTop_of_frames _ hr', hr]
      rfl
    have hsame : U.sameButNew ({ U with heap := s₂.heap, slotsUsed := s₂.slotsUsed } : State) L mc ms := by
      refine ⟨?_, q2, q3, q4, q5, q6⟩
      obtain ⟨t, ht, -⟩ := State.frames_cons hr
      show ({ U with heap := s₂.heap, slotsUsed := s₂.slotsUsed } : State) = { U.setFrames U.frames with heap := s₂.heap, slotsUsed := s₂.slotsUsed }
      rw [State.setFrames_self ht]
    subst hg
    refine Or.inl ⟨v, ⟨(({ U with heap := s₂.heap, slotsUsed := s₂.slotsUsed } : State).setVm s₂.vm), Ls ++ L, c0 + mc, s0 + ms⟩,
      ⟨X.admits, X.cas, X.clock, X.frames, X.room, X.hears, X.method, X.code, (X.here.setHeapUsed s₂.heap s₂.slotsUsed).setVm hW'.alike, X.tail, State.WarmedH.trans X.warmed hW', X.limits, X.bytes, X.same.trans (hsame.setVm s.vm)⟩,
      ⟨g, mk, s₂, L, rfl, rfl, hqc, rfl, hL, rfl, rfl⟩, ?_⟩
    show Steps p.tables e below _ ((({ U with heap := s₂.heap, slotsUsed := s₂.slotsUsed } : State).setVm s₂.vm).setTop { g with pc := g.pc + len₂, stack := v.toList ++ g.stack })
    rw [← hs₂]
    exact hsteps
  · obtain ⟨e2, q2, q3, q4, q5, q6⟩ := id hsm
    have e3 : s₂ = ({ (U.calling g mk a).setFrames s₂.frames with heap := s₂.heap, slotsUsed := s₂.slotsUsed } : State).setVm s₂.vm := by
      have : s₂ = ({ s₂ with vm := (U.calling g mk a).vm } : State).setVm s₂.vm := rfl
      rw [e2] at this
      exact this
    have hf₂ : s₂.frames = .throwing q :: .java g :: U.frames.tail := hend
    have hW' : U.WarmedH s₂.vm := hW₂
    have hs₂ : s₂ = ((({ U with heap := s₂.heap, slotsUsed := s₂.slotsUsed } : State).setVm s₂.vm).setTop g).pushFrame (.throwing q) := by
      refine e3.trans ?_
      rw [hf₂, State.calling_eq h.top, State.setFrames_setFrames, State.pushFrame, State.frames_setTop _ hr', State.setTop_of_frames _ hr', State.setFrames_setFrames, hr]
      rfl
    have hsame : U.sameButNew ({ U with heap := s₂.heap, slotsUsed := s₂.slotsUsed } : State) L mc ms := by
      refine ⟨?_, q2, q3, q4, q5, q6⟩
      obtain ⟨t, ht, -⟩ := State.frames_cons hr
      show ({ U with heap := s₂.heap, slotsUsed := s₂.slotsUsed } : State) = { U.setFrames U.frames with heap := s₂.heap, slotsUsed := s₂.slotsUsed }
      rw [State.setFrames_self ht]
    subst hg
    refine Or.inr ⟨q, ⟨(({ U with heap := s₂.heap, slotsUsed := s₂.slotsUsed } : State).setVm s₂.vm), Ls ++ L, c0 + mc, s0 + ms⟩,
      ⟨X.admits, X.cas, X.clock, X.frames, X.room, X.hears, X.method, X.code, (X.here.setHeapUsed s₂.heap s₂.slotsUsed).setVm hW'.alike, X.tail, State.WarmedH.trans X.warmed hW', X.limits, X.bytes, X.same.trans (hsame.setVm s.vm)⟩,
      ⟨g, mk, s₂, L, E, ce, rfl, rfl, hx, hce, hcv, hcl, rfl, hL, rfl, rfl⟩, ?_⟩
    show Steps p.tables e below _ (((({ U with heap := s₂.heap, slotsUsed := s₂.slotsUsed } : State).setVm s₂.vm).setTop g).pushFrame (.throwing q))
    rw [← hs₂]
    exact hsteps
end
variable {p : Program} {l : Launch} {e : Env} {R : Room} {s : State} {m : MethodId} {args : Array Value} {below : List Frame} {meth : Method} {c : Code} {T : State} {H : Heap} {locs : List Loc} {cells slots : Nat}
theorem vx_callVX (X : Stand p l e R s m args below meth c T locs cells slots) (hexec : p.tables.exec = Jvm.exec) {own C : String} {index : Nat} {y : MethodName} {bytes : ByteArray} {maxL : Nat} {ret : Option FieldType} {hh : List (Nat × Nat × Nat × Nat)}
    (hown : s.vm.findClass own = some m.cls) (hlink : (Cond.methodLink own index y).before args s = true) (hinst : (Cond.instanceMethod y).before args s = true) (hsel : (Cond.selects C y y).before args s = true)
    (hcode : (Cond.codeWith y bytes maxL ret hh).before args s = true) (hy : y.cls ≠ "java/lang/invoke/MethodHandle" ∧ y.cls ≠ "java/lang/invoke/VarHandle")
    {W9 : Nat} {Pre : Pt → Array Value → Prop} {Post : Pt → Array Value → Option Value → Pt → Prop} {PostX : Pt → Array Value → Addr → Pt → Prop} (hK : vx_Back l R p e below s args y 3 W9 Pre Post PostX)
    {b : Addr} {cellB : Cell} (hcell : T.heap[b]? = some cellB) (hobj : cellB.vm.isStatics = false) (hcls : s.vm.findClass C = some cellB.cls)
    {g : JFrame} (hg : g.method = m) (hsize : g.locals.size = c.maxLocals) {argsL rest : List Value} (hlen : ∀ sig, parseMethodDescriptor y.desc = some sig → argsL.length = sig.parameters.length)
    (hstack : g.stack = argsL.reverse ++ .ref b :: rest) (hW : 2 * g.monitorRoom + (rest.map fun v => v.category).sum ≤ W9) (hdg : decode c.code g.pc = .ok (.invokevirtual index, 3))
    (hpre : ∀ vm₁, s.WarmedH vm₁ → Pre ⟨T.setVm vm₁, locs, cells, slots⟩ (Value.ref b :: argsL).toArray) :
    (∃ (v : Option Value) (vm₁ : Vm) (B : Pt), s.WarmedH vm₁ ∧ Stand p l e R s m args below meth c B.U B.locs B.cells B.slots ∧ Post ⟨T.setVm vm₁, locs, cells, slots⟩ (Value.ref b :: argsL).toArray v B ∧
      ∀ target, Steps p.tables e below (B.U.setTop { g with pc := g.pc + 3, stack := v.toList ++ rest }) target → Steps p.tables e below (T.setTop g) target) ∨
    (∃ (q : Addr) (vm₁ : Vm) (B : Pt), s.WarmedH vm₁ ∧ Stand p l e R s m args below meth c B.U B.locs B.cells B.slots ∧ PostX ⟨T.setVm vm₁, locs, cells, slots⟩ (Value.ref b :: argsL).toArray q B ∧
      Steps p.tables e below (T.setTop g) ((B.U.setTop { g with stack := rest }).pushFrame (.throwing q))) := by
  obtain ⟨mk, methM, hnamed, hmethM, hstM, habM⟩ := Cond.instanceMethod_spec hinst
  obtain ⟨m8, methM', cM, hn8, hmethM', -, -, -, -, -, -, hsigM⟩ := Cond.codeWith_spec hcode
  cases Option.some.inj (hn8.symm.trans hnamed)
  cases hmethM.symm.trans hmethM'
  obtain ⟨c2, r2, m2, q1, q2, q3, q4, kP, hkP, hkPi⟩ := Cond.selects_spec hsel
  cases hcls.symm.trans q1
  cases (State.methodFound?_of_named hnamed hy).symm.trans q2
  cases hnamed.symm.trans q3
  have hselP : selectMethod e.platform s.vm cellB.cls mk = .method mk := by rw [Launch.admits_selectMethod X.admits]; exact q4
  obtain ⟨vm₁, X₁, hstep₁⟩ := X.invokevirtual hexec hown hlink hnamed hmethM hstM hkP hkPi hy (a := b) (cell := cellB) hcell
    (fun z h => by rw [h] at hobj; cases hobj) hselP hmethM habM hkP hkPi (g := g) hg (argsL := argsL) (rest := rest) (hlen _ hsigM) hstack hdg
  rcases hK m meth c ⟨T.setVm vm₁, locs, cells, slots⟩ { g with stack := rest } (.invokevirtual index) mk (Value.ref b :: argsL).toArray X₁ hg hsize hdg hW (X₁.named hnamed) (hpre vm₁ X₁.warmed) with ⟨v, B, X', hpost, hsteps⟩ | ⟨q, B, X', hpost, hsteps⟩
  · exact Or.inl ⟨v, vm₁, B, X₁.warmed, X', hpost, fun target h => hstep₁ _ fun acts => by rw [doInvoke_state]; exact hsteps.trans h⟩
  · exact Or.inr ⟨q, vm₁, B, X₁.warmed, X', hpost, hstep₁ _ fun acts => by rw [doInvoke_state]; exact hsteps⟩
theorem vx_callSX (X : Stand p l e R s m args below meth c T locs cells slots) (hexec : p.tables.exec = Jvm.exec) {own : String} {index : Nat} {y : MethodName} {bytes : ByteArray} {maxL : Nat} {ret : Option FieldType} {hh : List (Nat × Nat × Nat × Nat)}
    (hown : s.vm.findClass own = some m.cls) (hlink : (Cond.methodLink own index y).before args s = true) (hstat : (Cond.static y).before args s = true) (hinit : (Cond.initialized y.cls).before args s = true)
    (hcode : (Cond.codeWith y bytes maxL ret hh).before args s = true) (hy : y.cls ≠ "java/lang/invoke/MethodHandle" ∧ y.cls ≠ "java/lang/invoke/VarHandle")
    {W9 : Nat} {Pre : Pt → Array Value → Prop} {Post : Pt → Array Value → Option Value → Pt → Prop} {PostX : Pt → Array Value → Addr → Pt → Prop} (hK : vx_Back l R p e below s args y 3 W9 Pre Post PostX)
    {g : JFrame} (hg : g.method = m) (hsize : g.locals.size = c.maxLocals) {argsL rest : List Value} (hlen : ∀ sig, parseMethodDescriptor y.desc = some sig → argsL.length = sig.parameters.length)
    (hstack : g.stack = argsL.reverse ++ rest) (hW : 2 * g.monitorRoom + (rest.map fun v => v.category).sum ≤ W9) (hdg : decode c.code g.pc = .ok (.invokestatic index, 3))
    (hpre : ∀ vm₁, s.WarmedH vm₁ → Pre ⟨T.setVm vm₁, locs, cells, slots⟩ argsL.toArray) :
    (∃ (v : Option Value) (vm₁ : Vm) (B : Pt), s.WarmedH vm₁ ∧ Stand p l e R s m args below meth c B.U B.locs B.cells B.slots ∧ Post ⟨T.setVm vm₁, locs, cells, slots⟩ argsL.toArray v B ∧
      ∀ target, Steps p.tables e below (B.U.setTop { g with pc := g.pc + 3, stack := v.toList ++ rest }) target → Steps p.tables e below (T.setTop g) target) ∨
    (∃ (q : Addr) (vm₁ : Vm) (B : Pt), s.WarmedH vm₁ ∧ Stand p l e R s m args below meth c B.U B.locs B.cells B.slots ∧ PostX ⟨T.setVm vm₁, locs, cells, slots⟩ argsL.toArray q B ∧
      Steps p.tables e below (T.setTop g) ((B.U.setTop { g with stack := rest }).pushFrame (.throwing q))) := by
  obtain ⟨mk, methM, cM, hnamed, hmethM, -, -, -, -, -, -, hsigM⟩ := Cond.codeWith_spec hcode
  have hstatic : methM.isStatic = true := Cond.static_spec hnamed hmethM hstat
  obtain ⟨kP, hkP, -⟩ := className_of_methodNamed hnamed
  have hinitP : kP.init = .initialized := Cond.initialized_spec (findClass_of_methodNamed hnamed) hkP hinit
  obtain ⟨vm₁, X₁, hstep₁⟩ := X.invokestatic hexec hown hlink hnamed hmethM hstatic hkP hinitP hy (g := g) hg (argsL := argsL) (rest := rest) (hlen _ hsigM) hstack hdg
  rcases hK m meth c ⟨T.setVm vm₁, locs, cells, slots⟩ { g with stack := rest } (.invokestatic index) mk argsL.toArray X₁ hg hsize hdg hW (X₁.named hnamed) (hpre vm₁ X₁.warmed) with ⟨v, B, X', hpost, hsteps⟩ | ⟨q, B, X', hpost, hsteps⟩
  · exact Or.inl ⟨v, vm₁, B, X₁.warmed, X', hpost, fun target h => hstep₁ _ fun acts => by rw [doInvoke_state]; exact hsteps.trans h⟩
  · exact Or.inr ⟨q, vm₁, B, X₁.warmed, X', hpost, hstep₁ _ fun acts => by rw [doInvoke_state]; exact hsteps⟩
theorem vx_callVW (X : Stand p l e R s m args below meth c T locs cells slots) (hexec : p.tables.exec = Jvm.exec) {own C : String} {index : Nat} {y : MethodName} {bytes : ByteArray} {maxL : Nat} {ret : Option FieldType} {hh : List (Nat × Nat × Nat × Nat)}
    (hown : s.vm.findClass own = some m.cls) (hlink : (Cond.methodLink own index y).before args s = true) (hinst : (Cond.instanceMethod y).before args s = true) (hsel : (Cond.selects C y y).before args s = true)
    (hcode : (Cond.codeWith y bytes maxL ret hh).before args s = true) (hy : y.cls ≠ "java/lang/invoke/MethodHandle" ∧ y.cls ≠ "java/lang/invoke/VarHandle")
    {W9 : Nat} {Pre : Pt → Array Value → Prop} {Post : Pt → Array Value → Option Value → Pt → Prop} (hK : Back l R p e below s args y 3 W9 Pre Post)
    {b : Addr} {cellB : Cell} (hcell : T.heap[b]? = some cellB) (hobj : cellB.vm.isStatics = false) (hcls : s.vm.findClass C = some cellB.cls)
    {g : JFrame} (hg : g.method = m) (hsize : g.locals.size = c.maxLocals) {argsL rest : List Value} (hlen : ∀ sig, parseMethodDescriptor y.desc = some sig → argsL.length = sig.parameters.length)
    (hstack : g.stack = argsL.reverse ++ .ref b :: rest) (hW : 2 * g.monitorRoom + (rest.map fun v => v.category).sum ≤ W9) (hdg : decode c.code g.pc = .ok (.invokevirtual index, 3))
    (hpre : ∀ vm₁, s.WarmedH vm₁ → Pre ⟨T.setVm vm₁, locs, cells, slots⟩ (Value.ref b :: argsL).toArray) :
    ∃ (v : Option Value) (vm₁ : Vm) (B : Pt), s.WarmedH vm₁ ∧ Stand p l e R s m args below meth c B.U B.locs B.cells B.slots ∧ Post ⟨T.setVm vm₁, locs, cells, slots⟩ (Value.ref b :: argsL).toArray v B ∧
      ∀ target, Steps p.tables e below (B.U.setTop { g with pc := g.pc + 3, stack := v.toList ++ rest }) target → Steps p.tables e below (T.setTop g) target := by
  obtain ⟨mk, methM, hnamed, hmethM, hstM, habM⟩ := Cond.instanceMethod_spec hinst
  obtain ⟨m8, methM', cM, hn8, hmethM', -, -, -, -, -, -, hsigM⟩ := Cond.codeWith_spec hcode
  cases Option.some.inj (hn8.symm.trans hnamed)
  cases hmethM.symm.trans hmethM'
  obtain ⟨c2, r2, m2, q1, q2, q3, q4, kP, hkP, hkPi⟩ := Cond.selects_spec hsel
  cases hcls.symm.trans q1
  cases (State.methodFound?_of_named hnamed hy).symm.trans q2
  cases hnamed.symm.trans q3
  have hselP : selectMethod e.platform s.vm cellB.cls mk = .method mk := by rw [Launch.admits_selectMethod X.admits]; exact q4
  obtain ⟨vm₁, X₁, hstep₁⟩ := X.invokevirtual hexec hown hlink hnamed hmethM hstM hkP hkPi hy (a := b) (cell := cellB) hcell
    (fun z h => by rw [h] at hobj; cases hobj) hselP hmethM habM hkP hkPi (g := g) hg (argsL := argsL) (rest := rest) (hlen _ hsigM) hstack hdg
  obtain ⟨v, B, X', hpost, hsteps⟩ := hK m meth c ⟨T.setVm vm₁, locs, cells, slots⟩ { g with stack := rest } (.invokevirtual index) mk (Value.ref b :: argsL).toArray X₁ hg hsize hdg hW (X₁.named hnamed) (hpre vm₁ X₁.warmed)
  exact ⟨v, vm₁, B, X₁.warmed, X', hpost, fun target h => hstep₁ _ fun acts => by rw [doInvoke_state]; exact hsteps.trans h⟩
abbrev vx_CVW (R : Room) (s : State) (args : Array Value) (own C : String) (index : Nat) (y : MethodName) (bytes : ByteArray) (maxL : Nat) (ret : Option FieldType) (hh : List (Nat × Nat × Nat × Nat)) (ws : List Cond) (rm : Room) (mc ms n : Nat) : Prop :=
  (rm.cells = mc ∧ rm.slots = ms ∧ rm.frames + 1 ≤ R.frames ∧ 8 + (maxL + 11) + rm.locals ≤ R.locals ∧ (∀ w ∈ ws, ∀ (a' : Array Value) (U : State), s.WarmedH U.vm → w.before a' U = true) ∧ Cond.codeWith y bytes maxL ret hh ∈ ws) ∧
  (Cond.codeWith y bytes maxL ret hh).before args s = true ∧ (Cond.initialized y.cls).before args s = true ∧ (y.cls ≠ "java/lang/invoke/MethodHandle" ∧ y.cls ≠ "java/lang/invoke/VarHandle") ∧
  (∀ sig, parseMethodDescriptor y.desc = some sig → n = sig.parameters.length) ∧ (Cond.methodLink own index y).before args s = true ∧ (Cond.instanceMethod y).before args s = true ∧ (Cond.selects C y y).before args s = true
theorem vx_cwVW {own C : String} {index maxL mc ms : Nat} {y : MethodName} {bytes : ByteArray} {ret : Option FieldType} {hh : List (Nat × Nat × Nat × Nat)} {Ts ws ws' : List Cond} {rm : Room} (n : Nat) (ht : ∀ w ∈ Ts, w.before args s = true) (hT : GoodIn Ts (wsV own index C y ws)) (hw : ws = Cond.codeWith y bytes maxL ret hh :: ws') (hrc : rm.cells = mc) (hrs : rm.slots = ms)
    (hd : y.cls = C ∧ y.cls ≠ "java/lang/invoke/MethodHandle" ∧ y.cls ≠ "java/lang/invoke/VarHandle" ∧ (parseMethodDescriptor y.desc).map (fun d => d.parameters.length) = some n) (hR : rm.frames + 1 ≤ R.frames ∧ 8 + (maxL + 11) + rm.locals ≤ R.locals) :
    vx_CVW R s args own C index y bytes maxL ret hh ws rm mc ms n := by
  obtain ⟨hC, hd⟩ := hd
  subst hC
  have ok : ∀ w ∈ wsV own index y.cls y ws, w.before args s = true := fun w h => ht w (hT w h).1
  have hG : GoodIn Ts ws := fun w h => hT w (by unfold wsV; exact List.mem_append_right _ h)
  have hc : Cond.codeWith y bytes maxL ret hh ∈ ws := by rw [hw]; exact List.mem_cons_self
  refine ⟨⟨hrc, hrs, hR.1, hR.2, pay_in ht hG, hc⟩, ht _ (hG _ hc).1, ok _ (by simp [wsV]), ⟨hd.1, hd.2.1⟩, fun sig h => ?_, ok _ (by simp [wsV]), ok _ (by simp [wsV]), ok _ (by simp [wsV])⟩
  have h2 := hd.2.2
  rw [h] at h2
  exact (Option.some.inj h2).symm
theorem vx_runVW {y : MethodName} {bytes cc : ByteArray} {maxL nL mc ms n index : Nat} {ret : Option FieldType} {hh : List (Nat × Nat × Nat × Nat)} {ws : List Cond} {rm : Room} {Pc : Array Value → State → Prop} {Qc : Array Value → State → Outcome → State → Prop} {free : Addr → Prop} {Ts : List Cond} {own C : String} {b : Addr} {As rest : List Value} {g : JFrame}
    (S : CallFix p m c cc nL s args Ts own) (hM : Met l y ws rm Pc Qc mc ms free) (cw : vx_CVW R s args own C index y bytes maxL ret hh ws rm mc ms n) (hp : PreV s H C b Pc As)
    (hg : g.method = m) (hn : As.length = n) (hsize : g.locals.size = nL) (hstack : g.stack = As.reverse ++ .ref b :: rest) (hW : 2 * g.monitorRoom + (rest.map fun v => v.category).sum ≤ 8) (hdg : decode cc g.pc = .ok (.invokevirtual index, 3)) (hf : cells + mc ≤ R.cells ∧ slots + ms ≤ R.slots) :
    va_Run p l e R s m args below meth c H locs cells slots mc ms g rest (Qc (Value.ref b :: As).toArray) free := by
  obtain ⟨⟨hrc, hrs, hfr, hlo, hws, hcw⟩, hcode, hini, hy, hlen, hl, hin, hse⟩ := cw
  have hK : Back l R p e below s args y 3 8 (PreOf R mc ms Pc) (PostOf Qc mc ms free) := va_backW (hh := hh) (bytes := bytes) (maxL := maxL) (ret := ret) hM hp.1 hrc hrs hfr hlo hws hcw (fun a' U hW => word_at hW (Or.inl (by first | rfl | simp [Cond.onTables, Cond.keeps, Cond.steady])) hini)
  obtain ⟨hx, hb, hml, ho, -⟩ := S
  obtain ⟨-, ⟨cellB, hcB, hoB, hclB⟩, hPc⟩ := hp
  intro T hT X
  obtain ⟨v, vm₁, ⟨U', l2, c2, s2⟩, hW₁, X', ⟨g', mk, t, L, e1, e2, hq, h1, hL, h2, h3⟩, st⟩ := vx_callVW X hx (C := C) (hh := hh) (bytes := bytes) (maxL := maxL) (ret := ret) ho hl hin hse hcode hy hK (by rw [hT]; exact hcB) hoB hclB hg (hsize.trans hml.symm) (argsL := As) (rest := rest) (fun sig h => hn.trans (hlen sig h)) hstack hW (by rw [hb]; exact hdg)
    (fun vm₁ hW₁ => ⟨hf.1, hf.2, hPc (T.setVm vm₁) hT hW₁⟩)
  dsimp only [Pt.U, Pt.locs, Pt.cells, Pt.slots] at X' e1 e2 h1 h2 h3 st
  subst h1; subst h2; subst h3
  exact ⟨v, (T.setVm vm₁).calling g' mk (Value.ref b :: As).toArray, t, U', L, hT, X', hL, e1, e2, hq, st⟩
section
variable {y : MethodName} {bytes cc : ByteArray} {maxL nL mc ms n index : Nat} {ret : Option FieldType} {ws : List Cond} {rm : Room} {Pc : Array Value → State → Prop} {Qc : Array Value → State → Outcome → State → Prop} {XC : String → State → State → Prop} {free : Addr → Prop} {Ts : List Cond} {own C : String} {b : Addr} {As rest : List Value} {g : JFrame}
theorem vx_runVX {hh : List (Nat × Nat × Nat × Nat)} (S : CallFix p m c cc nL s args Ts own) (hM : vx_Met l y ws rm Pc Qc XC mc ms free) (cw : vx_CVW R s args own C index y bytes maxL ret hh ws rm mc ms n) (hp : PreV s H C b Pc As)
    (hg : g.method = m) (hn : As.length = n) (hsize : g.locals.size = nL) (hstack : g.stack = As.reverse ++ .ref b :: rest) (hW : 2 * g.monitorRoom + (rest.map fun v => v.category).sum ≤ 8) (hdg : decode cc g.pc = .ok (.invokevirtual index, 3)) (hf : cells + mc ≤ R.cells ∧ slots + ms ≤ R.slots) :
    vx_Run p l e R s m args below meth c H locs cells slots mc ms g rest (Qc (Value.ref b :: As).toArray) XC free := by
  obtain ⟨⟨hrc, hrs, hfr, hlo, hws, hcw⟩, hcode, hini, hy, hlen, hl, hin, hse⟩ := cw
  have hK : vx_Back l R p e below s args y 3 8 (PreOf R mc ms Pc) (PostOf Qc mc ms free) (vx_Post XC mc ms free) := vx_backW (hh := hh) (bytes := bytes) (maxL := maxL) (ret := ret) hM hp.1 hrc hrs hfr hlo hws hcw (fun a' U hW => word_at hW (Or.inl (by first | rfl | simp [Cond.onTables, Cond.keeps, Cond.steady])) hini)
  obtain ⟨hx, hb, hml, ho, -⟩ := S
  obtain ⟨-, ⟨cellB, hcB, hoB, hclB⟩, hPc⟩ := hp
  intro T hT X
  rcases vx_callVX X hx (C := C) (hh := hh) (bytes := bytes) (maxL := maxL) (ret := ret) ho hl hin hse hcode hy hK (by rw [hT]; exact hcB) hoB hclB hg (hsize.trans hml.symm) (argsL := As) (rest := rest) (fun sig h => hn.trans (hlen sig h)) hstack hW (by rw [hb]; exact hdg)
    (fun vm₁ hW₁ => ⟨hf.1, hf.2, hPc (T.setVm vm₁) hT hW₁⟩) with ⟨v, vm₁, ⟨U', l2, c2, s2⟩, hW₁, X', ⟨g', mk, t, L, e1, e2, hq, h1, hL, h2, h3⟩, st⟩ | ⟨q, vm₁, ⟨U', l2, c2, s2⟩, hW₁, X', ⟨g', mk, t, L, E, ce, e1, e2, hq, hce, hcv, hcl, h1, hL, h2, h3⟩, st⟩
  · dsimp only [Pt.U, Pt.locs, Pt.cells, Pt.slots] at X' e1 e2 h1 h2 h3 st
    subst h1; subst h2; subst h3
    exact Or.inl ⟨v, (T.setVm vm₁).calling g' mk (Value.ref b :: As).toArray, t, U', L, hT, X', hL, e1, e2, hq, st⟩
  · dsimp only [Pt.U, Pt.locs, Pt.cells, Pt.slots] at X' e1 e2 h1 h2 h3 st hcl
    subst h1; subst h2; subst h3
    exact Or.inr ⟨q, (T.setVm vm₁).calling g' mk (Value.ref b :: As).toArray, t, U', L, E, ce, hT, X', hL, e1, e2, hq, hce, hcv, vx_cls hW₁ hcl, st⟩
theorem vx_runSX {hh : List (Nat × Nat × Nat × Nat)} (S : CallFix p m c cc nL s args Ts own) (hM : vx_Met l y ws rm Pc Qc XC mc ms free) (cw : vx_CSW R s args own index y bytes maxL ret hh ws rm mc ms n) (hp : PreS s H Pc As)
    (hg : g.method = m) (hn : As.length = n) (hsize : g.locals.size = nL) (hstack : g.stack = As.reverse ++ rest) (hW : 2 * g.monitorRoom + (rest.map fun v => v.category).sum ≤ 8) (hdg : decode cc g.pc = .ok (.invokestatic index, 3)) (hf : cells + mc ≤ R.cells ∧ slots + ms ≤ R.slots) :
    vx_Run p l e R s m args below meth c H locs cells slots mc ms g rest (Qc As.toArray) XC free := by
  obtain ⟨⟨hrc, hrs, hfr, hlo, hws, hcw⟩, hcode, hini, hy, hlen, hl, hstt⟩ := cw
  have hK : vx_Back l R p e below s args y 3 8 (PreOf R mc ms Pc) (PostOf Qc mc ms free) (vx_Post XC mc ms free) := vx_backW (hh := hh) (bytes := bytes) (maxL := maxL) (ret := ret) hM hp.1 hrc hrs hfr hlo hws hcw (fun a' U hW => word_at hW (Or.inl (by first | rfl | simp [Cond.onTables, Cond.keeps, Cond.steady])) hini)
  obtain ⟨hx, hb, hml, ho, -⟩ := S
  intro T hT X
  rcases vx_callSX X hx (hh := hh) (bytes := bytes) (maxL := maxL) (ret := ret) ho hl hstt hini hcode hy hK hg (hsize.trans hml.symm) (argsL := As) (rest := rest) (fun sig h => hn.trans (hlen sig h)) hstack hW (by rw [hb]; exact hdg)
    (fun vm₁ hW₁ => ⟨hf.1, hf.2, hp.2 (T.setVm vm₁) hT hW₁⟩) with ⟨v, vm₁, ⟨U', l2, c2, s2⟩, hW₁, X', ⟨g', mk, t, L, e1, e2, hq, h1, hL, h2, h3⟩, st⟩ | ⟨q, vm₁, ⟨U', l2, c2, s2⟩, hW₁, X', ⟨g', mk, t, L, E, ce, e1, e2, hq, hce, hcv, hcl, h1, hL, h2, h3⟩, st⟩
  · dsimp only [Pt.U, Pt.locs, Pt.cells, Pt.slots] at X' e1 e2 h1 h2 h3 st
    subst h1; subst h2; subst h3
    exact Or.inl ⟨v, (T.setVm vm₁).calling g' mk As.toArray, t, U', L, hT, X', hL, e1, e2, hq, st⟩
  · dsimp only [Pt.U, Pt.locs, Pt.cells, Pt.slots] at X' e1 e2 h1 h2 h3 st hcl
    subst h1; subst h2; subst h3
    exact Or.inr ⟨q, (T.setVm vm₁).calling g' mk As.toArray, t, U', L, E, ce, hT, X', hL, e1, e2, hq, hce, hcv, vx_cls hW₁ hcl, st⟩
end
end VXH
theorem vx_ofWH {l : Launch} {y : MethodName} {ws ws' : List Cond} {rm : Room} {Pc : Array Value → State → Prop} {Qc : Array Value → State → Outcome → State → Prop} {XC : String → State → State → Prop} {mc ms : Nat} {free : Addr → Prop} {cc : ByteArray} {maxL : Nat} {ret : Option FieldType} {hh : List (Nat × Nat × Nat × Nat)}
    (hy : plainName y.cls = true) (hw : ws = Cond.codeWith y cc maxL ret hh :: ws')
    (body : ∀ p e s m args below meth c s₁, BodyLoose p l y (headSpec ws rm) cc maxL ret e s m args below meth c s₁ → c.maxLocals = maxL → Pc args s →
      W p l e (headSpec ws rm).room s m args below meth c s.heap [] 0 0 (vx_MQ below Qc XC args s mc ms free) (entryFrame m args maxL)) : vx_Met l y ws rm Pc Qc XC mc ms free := by
  refine MetFree.of_bodyS (code := cc) (maxLocals := maxL) (ret := ret) hy ?_ ?_
  · intro args s m h hn
    obtain ⟨m9, meth, c, hn9, h1, h2, h3, h4, -, h5, h6, -⟩ := Cond.codeWith_spec (atoms_spec (ws := ws) h _ (by rw [hw]; exact List.mem_cons_self))
    cases hn.symm.trans hn9
    exact ⟨meth, c, h1, h2, h3, h4, h5, h6⟩
  · intro p e s m args below meth c s₁ B hml hP _
    have hh0 : s₁.heap = s.heap := by rw [B.state]; rfl
    obtain ⟨t, a1, o, b1, b2, b3⟩ := body p e s m args below meth c s₁ B hml hP s₁ hh0 (Stand.of_body B)
    exact ⟨t, o, a1, b1, b2, b3⟩
/-! ===== END ===== -/
end
section
def qs_bad : List Cond := [.castable "java/lang/IllegalArgumentException" "java/lang/IllegalArgumentException", .castable "java/lang/IllegalStateException" "java/lang/IllegalStateException", .castable "java/util/NoSuchElementException" "java/util/NoSuchElementException", .declares ⟨"java/lang/RuntimeException", "<init>", "()V"⟩, .declares ⟨"java/lang/RuntimeException", "<init>", "(Ljava/lang/String;)V"⟩, .declares ⟨"java/lang/Exception", "<init>", "()V"⟩, .declares ⟨"java/lang/Exception", "<init>", "(Ljava/lang/String;)V"⟩, .declares ⟨"java/lang/Throwable", "<init>", "()V"⟩, .declares ⟨"java/lang/Throwable", "<init>", "(Ljava/lang/String;)V"⟩]
theorem qs_bad_ok {args : Array Value} {s : State} (hN : qs_N s) : ∀ w ∈ qs_bad, w.before args s = true := vx_c (va_Nw.use rfl (hN.2.2.1 ("java/lang/IllegalArgumentException", "java/lang/IllegalArgumentException") (List.mem_of_getElem? (i := 0) rfl))) (vx_c (va_Nw.use rfl (hN.2.2.1 ("java/lang/IllegalStateException", "java/lang/IllegalStateException") (List.mem_of_getElem? (i := 1) rfl))) (vx_c (va_Nw.use rfl (hN.2.2.1 ("java/util/NoSuchElementException", "java/util/NoSuchElementException") (List.mem_of_getElem? (i := 2) rfl))) (vx_c (va_Nw.use rfl (hN.2.2.2 _ (List.mem_of_getElem? (i := 0) rfl))) (vx_c (va_Nw.use rfl (hN.2.2.2 _ (List.mem_of_getElem? (i := 1) rfl))) (vx_c (va_Nw.use rfl (hN.2.2.2 _ (List.mem_of_getElem? (i := 2) rfl))) (vx_c (va_Nw.use rfl (hN.2.2.2 _ (List.mem_of_getElem? (i := 3) rfl))) (vx_c (va_Nw.use rfl (hN.2.2.2 _ (List.mem_of_getElem? (i := 4) rfl))) (vx_c (va_Nw.use rfl (hN.2.2.2 _ (List.mem_of_getElem? (i := 5) rfl))) (vx_n)))))))))
theorem hm_Q_65 : ∀ w ∈ (vx_atS "QuakeServer" 65 "java/lang/IllegalArgumentException" ["java/lang/RuntimeException", "java/lang/Exception"]).filter goodWord, w ∈ qs_gt := by decide +kernel
theorem ha_Q_65 {args : Array Value} {s : State} (hg : ∀ w ∈ qs_gt, w.before args s = true) (hN : qs_N s) : ∀ w ∈ vx_atS "QuakeServer" 65 "java/lang/IllegalArgumentException" ["java/lang/RuntimeException", "java/lang/Exception"], w.before args s = true := vx_hat (B := qs_bad) (fun w hw => hg w (hm_Q_65 w hw)) (by decide +kernel) (qs_bad_ok hN)
theorem hd_Q_65 : ∀ w ∈ Cond.classLink "QuakeServer" 61 "java/lang/IllegalArgumentException" :: Cond.initialized "java/lang/IllegalArgumentException" :: vx_atS "QuakeServer" 65 "java/lang/IllegalArgumentException" ["java/lang/RuntimeException", "java/lang/Exception"], vx_ot w = true := by decide +kernel
theorem hm_Q_78 : ∀ w ∈ (vx_atS "QuakeServer" 78 "java/lang/IllegalStateException" ["java/lang/RuntimeException", "java/lang/Exception"]).filter goodWord, w ∈ qs_gt := by decide +kernel
theorem ha_Q_78 {args : Array Value} {s : State} (hg : ∀ w ∈ qs_gt, w.before args s = true) (hN : qs_N s) : ∀ w ∈ vx_atS "QuakeServer" 78 "java/lang/IllegalStateException" ["java/lang/RuntimeException", "java/lang/Exception"], w.before args s = true := vx_hat (B := qs_bad) (fun w hw => hg w (hm_Q_78 w hw)) (by decide +kernel) (qs_bad_ok hN)
theorem hd_Q_78 : ∀ w ∈ Cond.classLink "QuakeServer" 74 "java/lang/IllegalStateException" :: Cond.initialized "java/lang/IllegalStateException" :: vx_atS "QuakeServer" 78 "java/lang/IllegalStateException" ["java/lang/RuntimeException", "java/lang/Exception"], vx_ot w = true := by decide +kernel
end
section
theorem d_J_floorDiv_JJJ_0 : decode b_J_floorDiv_JJJ 0 = .ok (.lload_n 0, 1) := by decide +kernel
theorem d_J_floorDiv_JJJ_1 : decode b_J_floorDiv_JJJ 1 = .ok (.lload_n 2, 1) := by decide +kernel
theorem d_J_floorDiv_JJJ_2 : decode b_J_floorDiv_JJJ 2 = .ok (.ldiv, 1) := by decide +kernel
theorem d_J_floorDiv_JJJ_3 : decode b_J_floorDiv_JJJ 3 = .ok (.lstore 4, 2) := by decide +kernel
theorem d_J_floorDiv_JJJ_5 : decode b_J_floorDiv_JJJ 5 = .ok (.lload_n 0, 1) := by decide +kernel
theorem d_J_floorDiv_JJJ_6 : decode b_J_floorDiv_JJJ 6 = .ok (.lload_n 2, 1) := by decide +kernel
theorem d_J_floorDiv_JJJ_7 : decode b_J_floorDiv_JJJ 7 = .ok (.lxor, 1) := by decide +kernel
theorem d_J_floorDiv_JJJ_8 : decode b_J_floorDiv_JJJ 8 = .ok (.lconst 0, 1) := by decide +kernel
theorem d_J_floorDiv_JJJ_9 : decode b_J_floorDiv_JJJ 9 = .ok (.lcmp, 1) := by decide +kernel
theorem d_J_floorDiv_JJJ_10 : decode b_J_floorDiv_JJJ 10 = .ok (.ifCond .ge 17, 3) := by decide +kernel
theorem d_J_floorDiv_JJJ_13 : decode b_J_floorDiv_JJJ 13 = .ok (.lload 4, 2) := by decide +kernel
theorem d_J_floorDiv_JJJ_15 : decode b_J_floorDiv_JJJ 15 = .ok (.lload_n 2, 1) := by decide +kernel
theorem d_J_floorDiv_JJJ_16 : decode b_J_floorDiv_JJJ 16 = .ok (.lmul, 1) := by decide +kernel
theorem d_J_floorDiv_JJJ_17 : decode b_J_floorDiv_JJJ 17 = .ok (.lload_n 0, 1) := by decide +kernel
theorem d_J_floorDiv_JJJ_18 : decode b_J_floorDiv_JJJ 18 = .ok (.lcmp, 1) := by decide +kernel
theorem d_J_floorDiv_JJJ_19 : decode b_J_floorDiv_JJJ 19 = .ok (.ifCond .eq 8, 3) := by decide +kernel
theorem d_J_floorDiv_JJJ_22 : decode b_J_floorDiv_JJJ 22 = .ok (.lload 4, 2) := by decide +kernel
theorem d_J_floorDiv_JJJ_24 : decode b_J_floorDiv_JJJ 24 = .ok (.lconst 1, 1) := by decide +kernel
theorem d_J_floorDiv_JJJ_25 : decode b_J_floorDiv_JJJ 25 = .ok (.lsub, 1) := by decide +kernel
theorem d_J_floorDiv_JJJ_26 : decode b_J_floorDiv_JJJ 26 = .ok (.lreturn, 1) := by decide +kernel
theorem d_J_floorDiv_JJJ_27 : decode b_J_floorDiv_JJJ 27 = .ok (.lload 4, 2) := by decide +kernel
theorem d_J_floorDiv_JJJ_29 : decode b_J_floorDiv_JJJ 29 = .ok (.lreturn, 1) := by decide +kernel
def f_J_floorDiv_JJJ (a1 : Int64) (a2 : Int64) : Option Int64 := (qs_nzl (a2) (if 0 ≤ (lg_cmp (a1 ^^^ a2) (0 : Int64)) then (some (a1 / a2)) else (if (lg_cmp ((a1 / a2) * a2) a1) = 0 then (some (a1 / a2)) else (some ((a1 / a2) - (1 : Int64))))))
set_option maxHeartbeats 4000000 in
set_option maxRecDepth 100000 in
theorem c_J_floorDiv_JJJ (l : Launch) (sz : Nat) (a1 : Int64) (a2 : Int64) (r0 : Int64) (hF : f_J_floorDiv_JJJ a1 a2 = some r0) : Met l y_J_floorDiv_JJJ (qs_ws y_J_floorDiv_JJJ b_J_floorDiv_JJJ 6 (some .long)) ({ frames := 0, cells := 0, slots := 0, locals := 0 } : Room) (va_Pc ([.long a1, .long a2] : List Value) (fun U => U.heap.size = sz ∧ qs_N U)) (va_Ql (fun (r : Int64) (_ : Unit) => r = r0) (fun _ _ => True) (va_A [] sz)) 0 0 (va_A [] sz) := by
  refine va_MetF (cc := b_J_floorDiv_JJJ) (maxL := 6) (ret := (some .long)) (by decide +kernel) rfl ?_
  intro p e s m args below meth cd s₁ B hml hv
  obtain ⟨rfl, hsz, hNs⟩ := hv
  have hx := B.exec
  have hb := B.bytes
  have hr := B.returns
  have hts := atoms_spec (ws := (qs_ws y_J_floorDiv_JJJ b_J_floorDiv_JJJ 6 (some .long))) B.pre
  have hg : ∀ w ∈ qs_gt, w.before _ s = true := fun w h => hts w (List.mem_cons_of_mem _ h)
  have hown : s.vm.findClass R_J = some m.cls := findClass_of_methodNamed B.named
  have hlocks := B.notSynchronized
  subst hsz
  have hD : va_D (va_A [] s.heap.size) [] := qs_D0
  have hP : va_P qs_G0 [] [] s.heap := qs_P0
  generalize hAe : va_A ([]) s.heap.size = A at hD ⊢
  have hA : ∀ q : Nat, s.heap.size ≤ q → A q := fun q h => by rw [← hAe]; exact Or.inr h
  have hS : va_S A s.heap s.heap [] := va_S.rf
  have hl := lv_entry ([.long a1, .long a2] : List Value) (n := 6) (Nat.le_of_ble_eq_true rfl)
  rw [lg_entry_eq]
  generalize (lg_sl ([.long a1, .long a2] : List Value) ++ List.replicate (6 - (lg_sl ([.long a1, .long a2] : List Value)).length) Slot.unset).toArray = ls at hl ⊢
  have hl : lv_has ls 6 [(0, .long (a1)), (2, .long (a2))] := hl
  unfold f_J_floorDiv_JJJ at hF
  obtain ⟨H, hHe⟩ : ∃ H, H = s.heap := ⟨_, rfl⟩
  obtain ⟨locs, hLe⟩ : ∃ L : List Loc, L = [] := ⟨_, rfl⟩
  rw [← hHe] at hP ⊢
  rw [← hLe]
  have hS : va_S A s.heap H locs := by rw [hHe, hLe]; exact hS
  refine lv_lload_n hx hb d_J_floorDiv_JJJ_0 rfl (lv_at hl 0 rfl) ?_
  refine lv_lload_n hx hb d_J_floorDiv_JJJ_1 rfl (lv_at hl 1 rfl) ?_
  obtain ⟨c1, hF⟩ := qs_nzl_some hF
  refine lv_ldiv hx hb d_J_floorDiv_JJJ_2 c1 ?_
  refine lv_lstore (lv' := [(4, .long (a1 / a2)), (0, .long (a1)), (2, .long (a2))]) hx hb d_J_floorDiv_JJJ_3 hl (by decide) rfl (fun ls hl => ?_)
  refine lv_lload_n hx hb d_J_floorDiv_JJJ_5 rfl (lv_at hl 1 rfl) ?_
  refine lv_lload_n hx hb d_J_floorDiv_JJJ_6 rfl (lv_at hl 2 rfl) ?_
  refine lv_lxor hx hb d_J_floorDiv_JJJ_7 ?_
  refine lv_lconst (v := 0) hx hb d_J_floorDiv_JJJ_8 (by decide) ?_
  refine W.lcmp hx hb d_J_floorDiv_JJJ_9 ?_
  refine lv_if_ge (tgt := 27) hx hb d_J_floorDiv_JJJ_10 (by decide) (fun c2 => ?_) (fun c2 => ?_)
  · have hF := qs_pos c2 hF
    refine lv_lload hx hb d_J_floorDiv_JJJ_27 (lv_at hl 0 rfl) ?_
    have h9 := Option.some.inj hF
    exact W.lret (v := a1 / a2) hx hb hr (fun t ht hW => ⟨⟨(a1 / a2), (), rfl, h9, trivial⟩, hS.F ht⟩) hS.2.2 d_J_floorDiv_JJJ_29
  · have hF := qs_neg c2 hF
    refine lv_lload hx hb d_J_floorDiv_JJJ_13 (lv_at hl 0 rfl) ?_
    refine lv_lload_n hx hb d_J_floorDiv_JJJ_15 rfl (lv_at hl 2 rfl) ?_
    refine lv_lmul hx hb d_J_floorDiv_JJJ_16 ?_
    refine lv_lload_n hx hb d_J_floorDiv_JJJ_17 rfl (lv_at hl 1 rfl) ?_
    refine W.lcmp hx hb d_J_floorDiv_JJJ_18 ?_
    refine lv_if_eq (tgt := 27) hx hb d_J_floorDiv_JJJ_19 (by decide) (fun c3 => ?_) (fun c3 => ?_)
    · have hF := qs_pos c3 hF
      refine lv_lload hx hb d_J_floorDiv_JJJ_27 (lv_at hl 0 rfl) ?_
      have h9 := Option.some.inj hF
      exact W.lret (v := a1 / a2) hx hb hr (fun t ht hW => ⟨⟨(a1 / a2), (), rfl, h9, trivial⟩, hS.F ht⟩) hS.2.2 d_J_floorDiv_JJJ_29
    · have hF := qs_neg c3 hF
      refine lv_lload hx hb d_J_floorDiv_JJJ_22 (lv_at hl 0 rfl) ?_
      refine lv_lconst (v := 1) hx hb d_J_floorDiv_JJJ_24 (by decide) ?_
      refine lv_lsub hx hb d_J_floorDiv_JJJ_25 ?_
      have h9 := Option.some.inj hF
      exact W.lret (v := (a1 / a2) - (1 : Int64)) hx hb hr (fun t ht hW => ⟨⟨((a1 / a2) - (1 : Int64)), (), rfl, h9, trivial⟩, hS.F ht⟩) hS.2.2 d_J_floorDiv_JJJ_26

theorem d_J_floorDiv_III_0 : decode b_J_floorDiv_III 0 = .ok (.iload_n 0, 1) := by decide +kernel
theorem d_J_floorDiv_III_1 : decode b_J_floorDiv_III 1 = .ok (.iload_n 1, 1) := by decide +kernel
theorem d_J_floorDiv_III_2 : decode b_J_floorDiv_III 2 = .ok (.idiv, 1) := by decide +kernel
theorem d_J_floorDiv_III_3 : decode b_J_floorDiv_III 3 = .ok (.istore_n 2, 1) := by decide +kernel
theorem d_J_floorDiv_III_4 : decode b_J_floorDiv_III 4 = .ok (.iload_n 0, 1) := by decide +kernel
theorem d_J_floorDiv_III_5 : decode b_J_floorDiv_III 5 = .ok (.iload_n 1, 1) := by decide +kernel
theorem d_J_floorDiv_III_6 : decode b_J_floorDiv_III 6 = .ok (.ixor, 1) := by decide +kernel
theorem d_J_floorDiv_III_7 : decode b_J_floorDiv_III 7 = .ok (.ifCond .ge 14, 3) := by decide +kernel
theorem d_J_floorDiv_III_10 : decode b_J_floorDiv_III 10 = .ok (.iload_n 2, 1) := by decide +kernel
theorem d_J_floorDiv_III_11 : decode b_J_floorDiv_III 11 = .ok (.iload_n 1, 1) := by decide +kernel
theorem d_J_floorDiv_III_12 : decode b_J_floorDiv_III 12 = .ok (.imul, 1) := by decide +kernel
theorem d_J_floorDiv_III_13 : decode b_J_floorDiv_III 13 = .ok (.iload_n 0, 1) := by decide +kernel
theorem d_J_floorDiv_III_14 : decode b_J_floorDiv_III 14 = .ok (.if_icmp .eq 7, 3) := by decide +kernel
theorem d_J_floorDiv_III_17 : decode b_J_floorDiv_III 17 = .ok (.iload_n 2, 1) := by decide +kernel
theorem d_J_floorDiv_III_18 : decode b_J_floorDiv_III 18 = .ok (.iconst 1, 1) := by decide +kernel
theorem d_J_floorDiv_III_19 : decode b_J_floorDiv_III 19 = .ok (.isub, 1) := by decide +kernel
theorem d_J_floorDiv_III_20 : decode b_J_floorDiv_III 20 = .ok (.ireturn, 1) := by decide +kernel
theorem d_J_floorDiv_III_21 : decode b_J_floorDiv_III 21 = .ok (.iload_n 2, 1) := by decide +kernel
theorem d_J_floorDiv_III_22 : decode b_J_floorDiv_III 22 = .ok (.ireturn, 1) := by decide +kernel
def f_J_floorDiv_III (a1 : Int32) (a2 : Int32) : Option Int32 := (qs_nzi (a2) (if 0 ≤ (a1 ^^^ a2) then (some (a1 / a2)) else (if ((a1 / a2) * a2) = a1 then (some (a1 / a2)) else (some ((a1 / a2) - 1)))))
set_option maxHeartbeats 4000000 in
set_option maxRecDepth 100000 in
theorem c_J_floorDiv_III (l : Launch) (sz : Nat) (a1 : Int32) (a2 : Int32) (r0 : Int32) (hF : f_J_floorDiv_III a1 a2 = some r0) : Met l y_J_floorDiv_III (qs_ws y_J_floorDiv_III b_J_floorDiv_III 3 (some .int)) ({ frames := 0, cells := 0, slots := 0, locals := 0 } : Room) (va_Pc ([.int a1, .int a2] : List Value) (fun U => U.heap.size = sz ∧ qs_N U)) (va_Qi (fun (r : Int32) (_ : Unit) => r = r0) (fun _ _ => True) (va_A [] sz)) 0 0 (va_A [] sz) := by
  refine va_MetF (cc := b_J_floorDiv_III) (maxL := 3) (ret := (some .int)) (by decide +kernel) rfl ?_
  intro p e s m args below meth cd s₁ B hml hv
  obtain ⟨rfl, hsz, hNs⟩ := hv
  have hx := B.exec
  have hb := B.bytes
  have hr := B.returns
  have hts := atoms_spec (ws := (qs_ws y_J_floorDiv_III b_J_floorDiv_III 3 (some .int))) B.pre
  have hg : ∀ w ∈ qs_gt, w.before _ s = true := fun w h => hts w (List.mem_cons_of_mem _ h)
  have hown : s.vm.findClass R_J = some m.cls := findClass_of_methodNamed B.named
  have hlocks := B.notSynchronized
  subst hsz
  have hD : va_D (va_A [] s.heap.size) [] := qs_D0
  have hP : va_P qs_G0 [] [] s.heap := qs_P0
  generalize hAe : va_A ([]) s.heap.size = A at hD ⊢
  have hA : ∀ q : Nat, s.heap.size ≤ q → A q := fun q h => by rw [← hAe]; exact Or.inr h
  have hS : va_S A s.heap s.heap [] := va_S.rf
  have hl := lv_entry ([.int a1, .int a2] : List Value) (n := 3) (Nat.le_of_ble_eq_true rfl)
  rw [lg_entry_eq]
  generalize (lg_sl ([.int a1, .int a2] : List Value) ++ List.replicate (3 - (lg_sl ([.int a1, .int a2] : List Value)).length) Slot.unset).toArray = ls at hl ⊢
  have hl : lv_has ls 3 [(0, .int (a1)), (1, .int (a2))] := hl
  unfold f_J_floorDiv_III at hF
  obtain ⟨H, hHe⟩ : ∃ H, H = s.heap := ⟨_, rfl⟩
  obtain ⟨locs, hLe⟩ : ∃ L : List Loc, L = [] := ⟨_, rfl⟩
  rw [← hHe] at hP ⊢
  rw [← hLe]
  have hS : va_S A s.heap H locs := by rw [hHe, hLe]; exact hS
  refine lv_iload_n hx hb d_J_floorDiv_III_0 rfl (lv_at hl 0 rfl) ?_
  refine lv_iload_n hx hb d_J_floorDiv_III_1 rfl (lv_at hl 1 rfl) ?_
  obtain ⟨c1, hF⟩ := qs_nzi_some hF
  refine lv_idiv hx hb d_J_floorDiv_III_2 c1 ?_
  refine lv_istore_n (lv' := [(2, .int (a1 / a2)), (0, .int (a1)), (1, .int (a2))]) hx hb d_J_floorDiv_III_3 rfl hl (by decide) rfl (fun ls hl => ?_)
  refine lv_iload_n hx hb d_J_floorDiv_III_4 rfl (lv_at hl 1 rfl) ?_
  refine lv_iload_n hx hb d_J_floorDiv_III_5 rfl (lv_at hl 2 rfl) ?_
  refine lv_ixor hx hb d_J_floorDiv_III_6 ?_
  refine lv_if_ge (tgt := 21) hx hb d_J_floorDiv_III_7 (by decide) (fun c2 => ?_) (fun c2 => ?_)
  · have hF := qs_pos c2 hF
    refine lv_iload_n hx hb d_J_floorDiv_III_21 rfl (lv_at hl 0 rfl) ?_
    have h9 := Option.some.inj hF
    exact W.iret (v := a1 / a2) hx hb hr (fun t ht hW => ⟨⟨(a1 / a2), (), rfl, h9, trivial⟩, hS.F ht⟩) hS.2.2 d_J_floorDiv_III_22
  · have hF := qs_neg c2 hF
    refine lv_iload_n hx hb d_J_floorDiv_III_10 rfl (lv_at hl 0 rfl) ?_
    refine lv_iload_n hx hb d_J_floorDiv_III_11 rfl (lv_at hl 2 rfl) ?_
    refine lv_imul hx hb d_J_floorDiv_III_12 ?_
    refine lv_iload_n hx hb d_J_floorDiv_III_13 rfl (lv_at hl 1 rfl) ?_
    refine lv_icmp_eq (tgt := 21) hx hb d_J_floorDiv_III_14 (by decide) (fun c3 => ?_) (fun c3 => ?_)
    · have hF := qs_pos c3 hF
      refine lv_iload_n hx hb d_J_floorDiv_III_21 rfl (lv_at hl 0 rfl) ?_
      have h9 := Option.some.inj hF
      exact W.iret (v := a1 / a2) hx hb hr (fun t ht hW => ⟨⟨(a1 / a2), (), rfl, h9, trivial⟩, hS.F ht⟩) hS.2.2 d_J_floorDiv_III_22
    · have hF := qs_neg c3 hF
      refine lv_iload_n hx hb d_J_floorDiv_III_17 rfl (lv_at hl 0 rfl) ?_
      refine lv_iconst (v := 1) hx hb d_J_floorDiv_III_18 (by decide) ?_
      refine lv_isub hx hb d_J_floorDiv_III_19 ?_
      have h9 := Option.some.inj hF
      exact W.iret (v := (a1 / a2) - 1) hx hb hr (fun t ht hW => ⟨⟨((a1 / a2) - 1), (), rfl, h9, trivial⟩, hS.F ht⟩) hS.2.2 d_J_floorDiv_III_20
end
section
theorem d_Q_isBelow_0 : decode b_Q_isBelow 0 = .ok (.iload_n 0, 1) := by decide +kernel
theorem d_Q_isBelow_1 : decode b_Q_isBelow 1 = .ok (.ifCond .lt 12, 3) := by decide +kernel
theorem d_Q_isBelow_4 : decode b_Q_isBelow 4 = .ok (.iload_n 0, 1) := by decide +kernel
theorem d_Q_isBelow_5 : decode b_Q_isBelow 5 = .ok (.iload_n 1, 1) := by decide +kernel
theorem d_Q_isBelow_6 : decode b_Q_isBelow 6 = .ok (.if_icmp .ge 7, 3) := by decide +kernel
theorem d_Q_isBelow_9 : decode b_Q_isBelow 9 = .ok (.iconst 1, 1) := by decide +kernel
theorem d_Q_isBelow_10 : decode b_Q_isBelow 10 = .ok (.goto 4, 3) := by decide +kernel
theorem d_Q_isBelow_13 : decode b_Q_isBelow 13 = .ok (.iconst 0, 1) := by decide +kernel
theorem d_Q_isBelow_14 : decode b_Q_isBelow 14 = .ok (.ireturn, 1) := by decide +kernel
def f_Q_isBelow (a1 : Int32) (a2 : Int32) : Option Int32 := (if a1 < 0 then (some (0)) else (if a2 ≤ a1 then (some (0)) else (some (1))))
set_option maxHeartbeats 4000000 in
set_option maxRecDepth 100000 in
theorem c_Q_isBelow (l : Launch) (sz : Nat) (a1 : Int32) (a2 : Int32) (r0 : Int32) (hF : f_Q_isBelow a1 a2 = some r0) : Met l y_Q_isBelow (qs_ws y_Q_isBelow b_Q_isBelow 2 (some .boolean)) ({ frames := 0, cells := 0, slots := 0, locals := 0 } : Room) (va_Pc ([.int a1, .int a2] : List Value) (fun U => U.heap.size = sz ∧ qs_N U)) (va_Qi (fun (r : Int32) (_ : Unit) => r = r0) (fun _ _ => True) (va_A [] sz)) 0 0 (va_A [] sz) := by
  refine Met.ofW (cc := b_Q_isBelow) (maxL := 2) (ret := (some .boolean)) (by decide +kernel) rfl ?_
  intro p e s m args below meth cd s₁ B hml hv
  obtain ⟨rfl, hsz, hNs⟩ := hv
  have hx := B.exec
  have hb := B.bytes
  have hr := B.returns
  have hts := atoms_spec (ws := (qs_ws y_Q_isBelow b_Q_isBelow 2 (some .boolean))) B.pre
  have hg : ∀ w ∈ qs_gt, w.before _ s = true := fun w h => hts w (List.mem_cons_of_mem _ h)
  have hown : s.vm.findClass R_Q = some m.cls := findClass_of_methodNamed B.named
  have hlocks := B.notSynchronized
  subst hsz
  have hD : va_D (va_A [] s.heap.size) [] := qs_D0
  have hP : va_P qs_G0 [] [] s.heap := qs_P0
  generalize hAe : va_A ([]) s.heap.size = A at hD ⊢
  have hA : ∀ q : Nat, s.heap.size ≤ q → A q := fun q h => by rw [← hAe]; exact Or.inr h
  have hS : va_S A s.heap s.heap [] := va_S.rf
  have hl := lv_entry ([.int a1, .int a2] : List Value) (n := 2) (Nat.le_of_ble_eq_true rfl)
  rw [lg_entry_eq]
  generalize (lg_sl ([.int a1, .int a2] : List Value) ++ List.replicate (2 - (lg_sl ([.int a1, .int a2] : List Value)).length) Slot.unset).toArray = ls at hl ⊢
  have hl : lv_has ls 2 [(0, .int (a1)), (1, .int (a2))] := hl
  unfold f_Q_isBelow at hF
  obtain ⟨H, hHe⟩ : ∃ H, H = s.heap := ⟨_, rfl⟩
  obtain ⟨locs, hLe⟩ : ∃ L : List Loc, L = [] := ⟨_, rfl⟩
  rw [← hHe] at hP ⊢
  rw [← hLe]
  have hS : va_S A s.heap H locs := by rw [hHe, hLe]; exact hS
  refine lv_iload_n hx hb d_Q_isBelow_0 rfl (lv_at hl 0 rfl) ?_
  refine lv_if_lt (tgt := 13) hx hb d_Q_isBelow_1 (by decide) (fun c1 => ?_) (fun c1 => ?_)
  · have hF := qs_pos c1 hF
    refine lv_iconst (v := 0) hx hb d_Q_isBelow_13 (by decide) ?_
    have h9 := Option.some.inj hF
    exact W.zret (ty := .boolean) (v := 0) hx hb hr rfl (fun t ht hW => ⟨⟨0, (), rfl, h9, trivial⟩, hS.F ht⟩) hS.2.2 d_Q_isBelow_14
  · have hF := qs_neg c1 hF
    refine lv_iload_n hx hb d_Q_isBelow_4 rfl (lv_at hl 0 rfl) ?_
    refine lv_iload_n hx hb d_Q_isBelow_5 rfl (lv_at hl 1 rfl) ?_
    refine lv_icmp_ge (tgt := 13) hx hb d_Q_isBelow_6 (by decide) (fun c2 => ?_) (fun c2 => ?_)
    · have hF := qs_pos c2 hF
      refine lv_iconst (v := 0) hx hb d_Q_isBelow_13 (by decide) ?_
      have h9 := Option.some.inj hF
      exact W.zret (ty := .boolean) (v := 0) hx hb hr rfl (fun t ht hW => ⟨⟨0, (), rfl, h9, trivial⟩, hS.F ht⟩) hS.2.2 d_Q_isBelow_14
    · have hF := qs_neg c2 hF
      refine lv_iconst (v := 1) hx hb d_Q_isBelow_9 (by decide) ?_
      refine lv_goto (tgt := 14) hx hb d_Q_isBelow_10 (by decide) ?_
      have h9 := Option.some.inj hF
      exact W.zret (ty := .boolean) (v := 1) hx hb hr rfl (fun t ht hW => ⟨⟨1, (), rfl, h9, trivial⟩, hS.F ht⟩) hS.2.2 d_Q_isBelow_14

theorem d_Q_isEntityOrWorld_0 : decode b_Q_isEntityOrWorld 0 = .ok (.iload_n 0, 1) := by decide +kernel
theorem d_Q_isEntityOrWorld_1 : decode b_Q_isEntityOrWorld 1 = .ok (.iconst (-1), 1) := by decide +kernel
theorem d_Q_isEntityOrWorld_2 : decode b_Q_isEntityOrWorld 2 = .ok (.if_icmp .eq 12, 3) := by decide +kernel
theorem d_Q_isEntityOrWorld_5 : decode b_Q_isEntityOrWorld 5 = .ok (.iload_n 0, 1) := by decide +kernel
theorem d_Q_isEntityOrWorld_6 : decode b_Q_isEntityOrWorld 6 = .ok (.bipush 12, 2) := by decide +kernel
theorem d_Q_isEntityOrWorld_8 : decode b_Q_isEntityOrWorld 8 = .ok (.invokestatic 83, 3) := by decide +kernel
theorem d_Q_isEntityOrWorld_11 : decode b_Q_isEntityOrWorld 11 = .ok (.ifCond .eq 7, 3) := by decide +kernel
theorem d_Q_isEntityOrWorld_14 : decode b_Q_isEntityOrWorld 14 = .ok (.iconst 1, 1) := by decide +kernel
theorem d_Q_isEntityOrWorld_15 : decode b_Q_isEntityOrWorld 15 = .ok (.goto 4, 3) := by decide +kernel
theorem d_Q_isEntityOrWorld_18 : decode b_Q_isEntityOrWorld 18 = .ok (.iconst 0, 1) := by decide +kernel
theorem d_Q_isEntityOrWorld_19 : decode b_Q_isEntityOrWorld 19 = .ok (.ireturn, 1) := by decide +kernel
def f_Q_isEntityOrWorld (a1 : Int32) : Option Int32 := (if a1 = (-1) then (some (1)) else (qs_pb (f_Q_isBelow (a1) (12)) fun r2 => (if r2 = 0 then (some (0)) else (some (1)))))
set_option maxHeartbeats 4000000 in
set_option maxRecDepth 100000 in
theorem c_Q_isEntityOrWorld (l : Launch) (sz : Nat) (a1 : Int32) (r0 : Int32) (hF : f_Q_isEntityOrWorld a1 = some r0) : Met l y_Q_isEntityOrWorld (qs_ws y_Q_isEntityOrWorld b_Q_isEntityOrWorld 1 (some .boolean)) ({ frames := 1, cells := 0, slots := 0, locals := 21 } : Room) (va_Pc ([.int a1] : List Value) (fun U => U.heap.size = sz ∧ qs_N U)) (va_Qi (fun (r : Int32) (_ : Unit) => r = r0) (fun _ _ => True) (va_A [] sz)) 0 0 (va_A [] sz) := by
  refine Met.ofW (cc := b_Q_isEntityOrWorld) (maxL := 1) (ret := (some .boolean)) (by decide +kernel) rfl ?_
  intro p e s m args below meth cd s₁ B hml hv
  obtain ⟨rfl, hsz, hNs⟩ := hv
  have hx := B.exec
  have hb := B.bytes
  have hr := B.returns
  have hts := atoms_spec (ws := (qs_ws y_Q_isEntityOrWorld b_Q_isEntityOrWorld 1 (some .boolean))) B.pre
  have hg : ∀ w ∈ qs_gt, w.before _ s = true := fun w h => hts w (List.mem_cons_of_mem _ h)
  have hown : s.vm.findClass R_Q = some m.cls := findClass_of_methodNamed B.named
  have hlocks := B.notSynchronized
  subst hsz
  have hD : va_D (va_A [] s.heap.size) [] := qs_D0
  have hP : va_P qs_G0 [] [] s.heap := qs_P0
  generalize hAe : va_A ([]) s.heap.size = A at hD ⊢
  have hA : ∀ q : Nat, s.heap.size ≤ q → A q := fun q h => by rw [← hAe]; exact Or.inr h
  have hS : va_S A s.heap s.heap [] := va_S.rf
  have hl := lv_entry ([.int a1] : List Value) (n := 1) (Nat.le_of_ble_eq_true rfl)
  rw [lg_entry_eq]
  generalize (lg_sl ([.int a1] : List Value) ++ List.replicate (1 - (lg_sl ([.int a1] : List Value)).length) Slot.unset).toArray = ls at hl ⊢
  have hl : lv_has ls 1 [(0, .int (a1))] := hl
  unfold f_Q_isEntityOrWorld at hF
  obtain ⟨H, hHe⟩ : ∃ H, H = s.heap := ⟨_, rfl⟩
  obtain ⟨locs, hLe⟩ : ∃ L : List Loc, L = [] := ⟨_, rfl⟩
  rw [← hHe] at hP ⊢
  rw [← hLe]
  have hS : va_S A s.heap H locs := by rw [hHe, hLe]; exact hS
  refine lv_iload_n hx hb d_Q_isEntityOrWorld_0 rfl (lv_at hl 0 rfl) ?_
  refine lv_iconst (v := (-1)) hx hb d_Q_isEntityOrWorld_1 (by decide) ?_
  refine lv_icmp_eq (tgt := 14) hx hb d_Q_isEntityOrWorld_2 (by decide) (fun c1 => ?_) (fun c1 => ?_)
  · have hF := qs_pos c1 hF
    refine lv_iconst (v := 1) hx hb d_Q_isEntityOrWorld_14 (by decide) ?_
    refine lv_goto (tgt := 19) hx hb d_Q_isEntityOrWorld_15 (by decide) ?_
    have h9 := Option.some.inj hF
    exact W.zret (ty := .boolean) (v := 1) hx hb hr rfl (fun t ht hW => ⟨⟨1, (), rfl, h9, trivial⟩, hS.F ht⟩) hS.2.2 d_Q_isEntityOrWorld_19
  · have hF := qs_neg c1 hF
    refine lv_iload_n hx hb d_Q_isEntityOrWorld_5 rfl (lv_at hl 0 rfl) ?_
    refine lv_bipush (v := 12) hx hb d_Q_isEntityOrWorld_6 (by decide) ?_
    obtain ⟨r2, hX, hF⟩ := qs_pb_some hF
    refine qs_psi (va_runS (own := "QuakeServer") (As := [.int (a1), .int (12)]) (rest := []) ⟨hx, hb, hml, hown, hg⟩ (c_Q_isBelow l H.size (a1) (12) r2 hX) (va_cwS 2 hg (qs_gS t_311 t_312 t_1 t_313) rfl rfl rfl (by decide +kernel) ⟨Nat.le_of_ble_eq_true rfl, Nat.le_of_ble_eq_true rfl⟩) ⟨qs_blind0, fun U hU hW => ⟨rfl, by rw [hU], hNs.warm hW⟩⟩ rfl rfl hl.1 rfl (lv_room (Nat.le_of_ble_eq_true rfl)) d_Q_isEntityOrWorld_8 ⟨Nat.le_of_ble_eq_true rfl, Nat.le_of_ble_eq_true rfl⟩) hP hD hS hA (fun H locs hP hS => ?_)
    refine lv_if_eq (tgt := 18) hx hb d_Q_isEntityOrWorld_11 (by decide) (fun c3 => ?_) (fun c3 => ?_)
    · have hF := qs_pos c3 hF
      refine lv_iconst (v := 0) hx hb d_Q_isEntityOrWorld_18 (by decide) ?_
      have h9 := Option.some.inj hF
      exact W.zret (ty := .boolean) (v := 0) hx hb hr rfl (fun t ht hW => ⟨⟨0, (), rfl, h9, trivial⟩, hS.F ht⟩) hS.2.2 d_Q_isEntityOrWorld_19
    · have hF := qs_neg c3 hF
      refine lv_iconst (v := 1) hx hb d_Q_isEntityOrWorld_14 (by decide) ?_
      refine lv_goto (tgt := 19) hx hb d_Q_isEntityOrWorld_15 (by decide) ?_
      have h9 := Option.some.inj hF
      exact W.zret (ty := .boolean) (v := 1) hx hb hr rfl (fun t ht hW => ⟨⟨1, (), rfl, h9, trivial⟩, hS.F ht⟩) hS.2.2 d_Q_isEntityOrWorld_19

theorem d_Q_isInWorld_0 : decode b_Q_isInWorld 0 = .ok (.iload_n 0, 1) := by decide +kernel
theorem d_Q_isInWorld_1 : decode b_Q_isInWorld 1 = .ok (.sipush (-1024), 3) := by decide +kernel
theorem d_Q_isInWorld_4 : decode b_Q_isInWorld 4 = .ok (.if_icmp .lt 14, 3) := by decide +kernel
theorem d_Q_isInWorld_7 : decode b_Q_isInWorld 7 = .ok (.iload_n 0, 1) := by decide +kernel
theorem d_Q_isInWorld_8 : decode b_Q_isInWorld 8 = .ok (.sipush 1024, 3) := by decide +kernel
theorem d_Q_isInWorld_11 : decode b_Q_isInWorld 11 = .ok (.if_icmp .gt 7, 3) := by decide +kernel
theorem d_Q_isInWorld_14 : decode b_Q_isInWorld 14 = .ok (.iconst 1, 1) := by decide +kernel
theorem d_Q_isInWorld_15 : decode b_Q_isInWorld 15 = .ok (.goto 4, 3) := by decide +kernel
theorem d_Q_isInWorld_18 : decode b_Q_isInWorld 18 = .ok (.iconst 0, 1) := by decide +kernel
theorem d_Q_isInWorld_19 : decode b_Q_isInWorld 19 = .ok (.ireturn, 1) := by decide +kernel
def f_Q_isInWorld (a1 : Int32) : Option Int32 := (if a1 < (-1024) then (some (0)) else (if 1024 < a1 then (some (0)) else (some (1))))
set_option maxHeartbeats 4000000 in
set_option maxRecDepth 100000 in
theorem c_Q_isInWorld (l : Launch) (sz : Nat) (a1 : Int32) (r0 : Int32) (hF : f_Q_isInWorld a1 = some r0) : Met l y_Q_isInWorld (qs_ws y_Q_isInWorld b_Q_isInWorld 1 (some .boolean)) ({ frames := 0, cells := 0, slots := 0, locals := 0 } : Room) (va_Pc ([.int a1] : List Value) (fun U => U.heap.size = sz ∧ qs_N U)) (va_Qi (fun (r : Int32) (_ : Unit) => r = r0) (fun _ _ => True) (va_A [] sz)) 0 0 (va_A [] sz) := by
  refine Met.ofW (cc := b_Q_isInWorld) (maxL := 1) (ret := (some .boolean)) (by decide +kernel) rfl ?_
  intro p e s m args below meth cd s₁ B hml hv
  obtain ⟨rfl, hsz, hNs⟩ := hv
  have hx := B.exec
  have hb := B.bytes
  have hr := B.returns
  have hts := atoms_spec (ws := (qs_ws y_Q_isInWorld b_Q_isInWorld 1 (some .boolean))) B.pre
  have hg : ∀ w ∈ qs_gt, w.before _ s = true := fun w h => hts w (List.mem_cons_of_mem _ h)
  have hown : s.vm.findClass R_Q = some m.cls := findClass_of_methodNamed B.named
  have hlocks := B.notSynchronized
  subst hsz
  have hD : va_D (va_A [] s.heap.size) [] := qs_D0
  have hP : va_P qs_G0 [] [] s.heap := qs_P0
  generalize hAe : va_A ([]) s.heap.size = A at hD ⊢
  have hA : ∀ q : Nat, s.heap.size ≤ q → A q := fun q h => by rw [← hAe]; exact Or.inr h
  have hS : va_S A s.heap s.heap [] := va_S.rf
  have hl := lv_entry ([.int a1] : List Value) (n := 1) (Nat.le_of_ble_eq_true rfl)
  rw [lg_entry_eq]
  generalize (lg_sl ([.int a1] : List Value) ++ List.replicate (1 - (lg_sl ([.int a1] : List Value)).length) Slot.unset).toArray = ls at hl ⊢
  have hl : lv_has ls 1 [(0, .int (a1))] := hl
  unfold f_Q_isInWorld at hF
  obtain ⟨H, hHe⟩ : ∃ H, H = s.heap := ⟨_, rfl⟩
  obtain ⟨locs, hLe⟩ : ∃ L : List Loc, L = [] := ⟨_, rfl⟩
  rw [← hHe] at hP ⊢
  rw [← hLe]
  have hS : va_S A s.heap H locs := by rw [hHe, hLe]; exact hS
  refine lv_iload_n hx hb d_Q_isInWorld_0 rfl (lv_at hl 0 rfl) ?_
  refine lv_sipush (v := (-1024)) hx hb d_Q_isInWorld_1 (by decide) ?_
  refine lv_icmp_lt (tgt := 18) hx hb d_Q_isInWorld_4 (by decide) (fun c1 => ?_) (fun c1 => ?_)
  · have hF := qs_pos c1 hF
    refine lv_iconst (v := 0) hx hb d_Q_isInWorld_18 (by decide) ?_
    have h9 := Option.some.inj hF
    exact W.zret (ty := .boolean) (v := 0) hx hb hr rfl (fun t ht hW => ⟨⟨0, (), rfl, h9, trivial⟩, hS.F ht⟩) hS.2.2 d_Q_isInWorld_19
  · have hF := qs_neg c1 hF
    refine lv_iload_n hx hb d_Q_isInWorld_7 rfl (lv_at hl 0 rfl) ?_
    refine lv_sipush (v := 1024) hx hb d_Q_isInWorld_8 (by decide) ?_
    refine lv_icmp_gt (tgt := 18) hx hb d_Q_isInWorld_11 (by decide) (fun c2 => ?_) (fun c2 => ?_)
    · have hF := qs_pos c2 hF
      refine lv_iconst (v := 0) hx hb d_Q_isInWorld_18 (by decide) ?_
      have h9 := Option.some.inj hF
      exact W.zret (ty := .boolean) (v := 0) hx hb hr rfl (fun t ht hW => ⟨⟨0, (), rfl, h9, trivial⟩, hS.F ht⟩) hS.2.2 d_Q_isInWorld_19
    · have hF := qs_neg c2 hF
      refine lv_iconst (v := 1) hx hb d_Q_isInWorld_14 (by decide) ?_
      refine lv_goto (tgt := 19) hx hb d_Q_isInWorld_15 (by decide) ?_
      have h9 := Option.some.inj hF
      exact W.zret (ty := .boolean) (v := 1) hx hb hr rfl (fun t ht hW => ⟨⟨1, (), rfl, h9, trivial⟩, hS.F ht⟩) hS.2.2 d_Q_isInWorld_19

theorem d_Q_isNumber_0 : decode b_Q_isNumber 0 = .ok (.dload_n 0, 1) := by decide +kernel
theorem d_Q_isNumber_1 : decode b_Q_isNumber 1 = .ok (.ldc2_w 203, 3) := by decide +kernel
theorem d_Q_isNumber_4 : decode b_Q_isNumber 4 = .ok (.dcmp .l, 1) := by decide +kernel
theorem d_Q_isNumber_5 : decode b_Q_isNumber 5 = .ok (.ifCond .lt 15, 3) := by decide +kernel
theorem d_Q_isNumber_8 : decode b_Q_isNumber 8 = .ok (.dload_n 0, 1) := by decide +kernel
theorem d_Q_isNumber_9 : decode b_Q_isNumber 9 = .ok (.ldc2_w 205, 3) := by decide +kernel
theorem d_Q_isNumber_12 : decode b_Q_isNumber 12 = .ok (.dcmp .g, 1) := by decide +kernel
theorem d_Q_isNumber_13 : decode b_Q_isNumber 13 = .ok (.ifCond .gt 7, 3) := by decide +kernel
theorem d_Q_isNumber_16 : decode b_Q_isNumber 16 = .ok (.iconst 1, 1) := by decide +kernel
theorem d_Q_isNumber_17 : decode b_Q_isNumber 17 = .ok (.goto 4, 3) := by decide +kernel
theorem d_Q_isNumber_20 : decode b_Q_isNumber 20 = .ok (.iconst 0, 1) := by decide +kernel
theorem d_Q_isNumber_21 : decode b_Q_isNumber 21 = .ok (.ireturn, 1) := by decide +kernel
def f_Q_isNumber (a1 : UInt64) : Option Int32 := (if (Op.cmpValue (FP.dcmp a1 (13893604850437980160 : UInt64)) .l) < 0 then (some (0)) else (if 0 < (Op.cmpValue (FP.dcmp a1 (4670232813583204352 : UInt64)) .g) then (some (0)) else (some (1))))
set_option maxHeartbeats 4000000 in
set_option maxRecDepth 100000 in
theorem c_Q_isNumber (l : Launch) (sz : Nat) (a1 : UInt64) (r0 : Int32) (hF : f_Q_isNumber a1 = some r0) : Met l y_Q_isNumber (qs_ws y_Q_isNumber b_Q_isNumber 2 (some .boolean)) ({ frames := 0, cells := 0, slots := 0, locals := 0 } : Room) (va_Pc ([.double a1] : List Value) (fun U => U.heap.size = sz ∧ qs_N U)) (va_Qi (fun (r : Int32) (_ : Unit) => r = r0) (fun _ _ => True) (va_A [] sz)) 0 0 (va_A [] sz) := by
  refine Met.ofW (cc := b_Q_isNumber) (maxL := 2) (ret := (some .boolean)) (by decide +kernel) rfl ?_
  intro p e s m args below meth cd s₁ B hml hv
  obtain ⟨rfl, hsz, hNs⟩ := hv
  have hx := B.exec
  have hb := B.bytes
  have hr := B.returns
  have hts := atoms_spec (ws := (qs_ws y_Q_isNumber b_Q_isNumber 2 (some .boolean))) B.pre
  have hg : ∀ w ∈ qs_gt, w.before _ s = true := fun w h => hts w (List.mem_cons_of_mem _ h)
  have hown : s.vm.findClass R_Q = some m.cls := findClass_of_methodNamed B.named
  have hlocks := B.notSynchronized
  subst hsz
  have hD : va_D (va_A [] s.heap.size) [] := qs_D0
  have hP : va_P qs_G0 [] [] s.heap := qs_P0
  generalize hAe : va_A ([]) s.heap.size = A at hD ⊢
  have hA : ∀ q : Nat, s.heap.size ≤ q → A q := fun q h => by rw [← hAe]; exact Or.inr h
  have hS : va_S A s.heap s.heap [] := va_S.rf
  have hl := lv_entry ([.double a1] : List Value) (n := 2) (Nat.le_of_ble_eq_true rfl)
  rw [lg_entry_eq]
  generalize (lg_sl ([.double a1] : List Value) ++ List.replicate (2 - (lg_sl ([.double a1] : List Value)).length) Slot.unset).toArray = ls at hl ⊢
  have hl : lv_has ls 2 [(0, .double (a1))] := hl
  unfold f_Q_isNumber at hF
  obtain ⟨H, hHe⟩ : ∃ H, H = s.heap := ⟨_, rfl⟩
  obtain ⟨locs, hLe⟩ : ∃ L : List Loc, L = [] := ⟨_, rfl⟩
  rw [← hHe] at hP ⊢
  rw [← hLe]
  have hS : va_S A s.heap H locs := by rw [hHe, hLe]; exact hS
  refine lv_dload_n hx hb d_Q_isNumber_0 rfl (lv_at hl 0 rfl) ?_
  refine lv_ldc2d (v := 13893604850437980160) hx hb hown (hg _ t_342) d_Q_isNumber_1 ?_
  refine lv_dcmp hx hb d_Q_isNumber_4 ?_
  refine lv_if_lt (tgt := 20) hx hb d_Q_isNumber_5 (by decide) (fun c1 => ?_) (fun c1 => ?_)
  · have hF := qs_pos c1 hF
    refine lv_iconst (v := 0) hx hb d_Q_isNumber_20 (by decide) ?_
    have h9 := Option.some.inj hF
    exact W.zret (ty := .boolean) (v := 0) hx hb hr rfl (fun t ht hW => ⟨⟨0, (), rfl, h9, trivial⟩, hS.F ht⟩) hS.2.2 d_Q_isNumber_21
  · have hF := qs_neg c1 hF
    refine lv_dload_n hx hb d_Q_isNumber_8 rfl (lv_at hl 0 rfl) ?_
    refine lv_ldc2d (v := 4670232813583204352) hx hb hown (hg _ t_343) d_Q_isNumber_9 ?_
    refine lv_dcmp hx hb d_Q_isNumber_12 ?_
    refine lv_if_gt (tgt := 20) hx hb d_Q_isNumber_13 (by decide) (fun c2 => ?_) (fun c2 => ?_)
    · have hF := qs_pos c2 hF
      refine lv_iconst (v := 0) hx hb d_Q_isNumber_20 (by decide) ?_
      have h9 := Option.some.inj hF
      exact W.zret (ty := .boolean) (v := 0) hx hb hr rfl (fun t ht hW => ⟨⟨0, (), rfl, h9, trivial⟩, hS.F ht⟩) hS.2.2 d_Q_isNumber_21
    · have hF := qs_neg c2 hF
      refine lv_iconst (v := 1) hx hb d_Q_isNumber_16 (by decide) ?_
      refine lv_goto (tgt := 21) hx hb d_Q_isNumber_17 (by decide) ?_
      have h9 := Option.some.inj hF
      exact W.zret (ty := .boolean) (v := 1) hx hb hr rfl (fun t ht hW => ⟨⟨1, (), rfl, h9, trivial⟩, hS.F ht⟩) hS.2.2 d_Q_isNumber_21

theorem d_Q_eighthsOf_0 : decode b_Q_eighthsOf 0 = .ok (.dload_n 0, 1) := by decide +kernel
theorem d_Q_eighthsOf_1 : decode b_Q_eighthsOf 1 = .ok (.ldc2_w 207, 3) := by decide +kernel
theorem d_Q_eighthsOf_4 : decode b_Q_eighthsOf 4 = .ok (.dmul, 1) := by decide +kernel
theorem d_Q_eighthsOf_5 : decode b_Q_eighthsOf 5 = .ok (.d2i, 1) := by decide +kernel
theorem d_Q_eighthsOf_6 : decode b_Q_eighthsOf 6 = .ok (.istore_n 2, 1) := by decide +kernel
theorem d_Q_eighthsOf_7 : decode b_Q_eighthsOf 7 = .ok (.iload_n 2, 1) := by decide +kernel
theorem d_Q_eighthsOf_8 : decode b_Q_eighthsOf 8 = .ok (.i2d, 1) := by decide +kernel
theorem d_Q_eighthsOf_9 : decode b_Q_eighthsOf 9 = .ok (.dload_n 0, 1) := by decide +kernel
theorem d_Q_eighthsOf_10 : decode b_Q_eighthsOf 10 = .ok (.ldc2_w 207, 3) := by decide +kernel
theorem d_Q_eighthsOf_13 : decode b_Q_eighthsOf 13 = .ok (.dmul, 1) := by decide +kernel
theorem d_Q_eighthsOf_14 : decode b_Q_eighthsOf 14 = .ok (.dcmp .l, 1) := by decide +kernel
theorem d_Q_eighthsOf_15 : decode b_Q_eighthsOf 15 = .ok (.ifCond .le 9, 3) := by decide +kernel
theorem d_Q_eighthsOf_18 : decode b_Q_eighthsOf 18 = .ok (.iload_n 2, 1) := by decide +kernel
theorem d_Q_eighthsOf_19 : decode b_Q_eighthsOf 19 = .ok (.iconst 1, 1) := by decide +kernel
theorem d_Q_eighthsOf_20 : decode b_Q_eighthsOf 20 = .ok (.isub, 1) := by decide +kernel
theorem d_Q_eighthsOf_21 : decode b_Q_eighthsOf 21 = .ok (.goto 4, 3) := by decide +kernel
theorem d_Q_eighthsOf_24 : decode b_Q_eighthsOf 24 = .ok (.iload_n 2, 1) := by decide +kernel
theorem d_Q_eighthsOf_25 : decode b_Q_eighthsOf 25 = .ok (.ireturn, 1) := by decide +kernel
def f_Q_eighthsOf (a1 : UInt64) : Option Int32 := (qs_nan (FP.dmul a1 (4620693217682128896 : UInt64)) (qs_nan (FP.dmul a1 (4620693217682128896 : UInt64)) (if (Op.cmpValue (FP.dcmp (FP.i2d (FP.d2i (FP.dmul a1 (4620693217682128896 : UInt64)))) (FP.dmul a1 (4620693217682128896 : UInt64))) .l) ≤ 0 then (some (FP.d2i (FP.dmul a1 (4620693217682128896 : UInt64)))) else (some ((FP.d2i (FP.dmul a1 (4620693217682128896 : UInt64))) - 1)))))
set_option maxHeartbeats 4000000 in
set_option maxRecDepth 100000 in
theorem c_Q_eighthsOf (l : Launch) (sz : Nat) (a1 : UInt64) (r0 : Int32) (hF : f_Q_eighthsOf a1 = some r0) : Met l y_Q_eighthsOf (qs_ws y_Q_eighthsOf b_Q_eighthsOf 3 (some .int)) ({ frames := 0, cells := 0, slots := 0, locals := 0 } : Room) (va_Pc ([.double a1] : List Value) (fun U => U.heap.size = sz ∧ qs_N U)) (va_Qi (fun (r : Int32) (_ : Unit) => r = r0) (fun _ _ => True) (va_A [] sz)) 0 0 (va_A [] sz) := by
  refine Met.ofW (cc := b_Q_eighthsOf) (maxL := 3) (ret := (some .int)) (by decide +kernel) rfl ?_
  intro p e s m args below meth cd s₁ B hml hv
  obtain ⟨rfl, hsz, hNs⟩ := hv
  have hx := B.exec
  have hb := B.bytes
  have hr := B.returns
  have hts := atoms_spec (ws := (qs_ws y_Q_eighthsOf b_Q_eighthsOf 3 (some .int))) B.pre
  have hg : ∀ w ∈ qs_gt, w.before _ s = true := fun w h => hts w (List.mem_cons_of_mem _ h)
  have hown : s.vm.findClass R_Q = some m.cls := findClass_of_methodNamed B.named
  have hlocks := B.notSynchronized
  subst hsz
  have hD : va_D (va_A [] s.heap.size) [] := qs_D0
  have hP : va_P qs_G0 [] [] s.heap := qs_P0
  generalize hAe : va_A ([]) s.heap.size = A at hD ⊢
  have hA : ∀ q : Nat, s.heap.size ≤ q → A q := fun q h => by rw [← hAe]; exact Or.inr h
  have hS : va_S A s.heap s.heap [] := va_S.rf
  have hl := lv_entry ([.double a1] : List Value) (n := 3) (Nat.le_of_ble_eq_true rfl)
  rw [lg_entry_eq]
  generalize (lg_sl ([.double a1] : List Value) ++ List.replicate (3 - (lg_sl ([.double a1] : List Value)).length) Slot.unset).toArray = ls at hl ⊢
  have hl : lv_has ls 3 [(0, .double (a1))] := hl
  unfold f_Q_eighthsOf at hF
  obtain ⟨H, hHe⟩ : ∃ H, H = s.heap := ⟨_, rfl⟩
  obtain ⟨locs, hLe⟩ : ∃ L : List Loc, L = [] := ⟨_, rfl⟩
  rw [← hHe] at hP ⊢
  rw [← hLe]
  have hS : va_S A s.heap H locs := by rw [hHe, hLe]; exact hS
  refine lv_dload_n hx hb d_Q_eighthsOf_0 rfl (lv_at hl 0 rfl) ?_
  refine lv_ldc2d (v := 4620693217682128896) hx hb hown (hg _ t_353) d_Q_eighthsOf_1 ?_
  obtain ⟨c1, hF⟩ := qs_nan_some hF
  refine lv_dmul hx hb d_Q_eighthsOf_4 c1 ?_
  refine lv_d2i hx hb d_Q_eighthsOf_5 ?_
  refine lv_istore_n (lv' := [(2, .int (FP.d2i (FP.dmul a1 (4620693217682128896 : UInt64)))), (0, .double (a1))]) hx hb d_Q_eighthsOf_6 rfl hl (by decide) rfl (fun ls hl => ?_)
  refine lv_iload_n hx hb d_Q_eighthsOf_7 rfl (lv_at hl 0 rfl) ?_
  refine lv_i2d hx hb d_Q_eighthsOf_8 ?_
  refine lv_dload_n hx hb d_Q_eighthsOf_9 rfl (lv_at hl 1 rfl) ?_
  refine lv_ldc2d (v := 4620693217682128896) hx hb hown (hg _ t_353) d_Q_eighthsOf_10 ?_
  obtain ⟨c2, hF⟩ := qs_nan_some hF
  refine lv_dmul hx hb d_Q_eighthsOf_13 c2 ?_
  refine lv_dcmp hx hb d_Q_eighthsOf_14 ?_
  refine lv_if_le (tgt := 24) hx hb d_Q_eighthsOf_15 (by decide) (fun c3 => ?_) (fun c3 => ?_)
  · have hF := qs_pos c3 hF
    refine lv_iload_n hx hb d_Q_eighthsOf_24 rfl (lv_at hl 0 rfl) ?_
    have h9 := Option.some.inj hF
    exact W.iret (v := FP.d2i (FP.dmul a1 (4620693217682128896 : UInt64))) hx hb hr (fun t ht hW => ⟨⟨(FP.d2i (FP.dmul a1 (4620693217682128896 : UInt64))), (), rfl, h9, trivial⟩, hS.F ht⟩) hS.2.2 d_Q_eighthsOf_25
  · have hF := qs_neg c3 hF
    refine lv_iload_n hx hb d_Q_eighthsOf_18 rfl (lv_at hl 0 rfl) ?_
    refine lv_iconst (v := 1) hx hb d_Q_eighthsOf_19 (by decide) ?_
    refine lv_isub hx hb d_Q_eighthsOf_20 ?_
    refine lv_goto (tgt := 25) hx hb d_Q_eighthsOf_21 (by decide) ?_
    have h9 := Option.some.inj hF
    exact W.iret (v := (FP.d2i (FP.dmul a1 (4620693217682128896 : UInt64))) - 1) hx hb hr (fun t ht hW => ⟨⟨((FP.d2i (FP.dmul a1 (4620693217682128896 : UInt64))) - 1), (), rfl, h9, trivial⟩, hS.F ht⟩) hS.2.2 d_Q_eighthsOf_25

theorem d_Q_valueOf_0 : decode b_Q_valueOf 0 = .ok (.iload_n 0, 1) := by decide +kernel
theorem d_Q_valueOf_1 : decode b_Q_valueOf 1 = .ok (.i2d, 1) := by decide +kernel
theorem d_Q_valueOf_2 : decode b_Q_valueOf 2 = .ok (.ldc2_w 207, 3) := by decide +kernel
theorem d_Q_valueOf_5 : decode b_Q_valueOf 5 = .ok (.ddiv, 1) := by decide +kernel
theorem d_Q_valueOf_6 : decode b_Q_valueOf 6 = .ok (.dreturn, 1) := by decide +kernel
def f_Q_valueOf (a1 : Int32) : Option UInt64 := (qs_nan (FP.ddiv (FP.i2d a1) (4620693217682128896 : UInt64)) (some (FP.ddiv (FP.i2d a1) (4620693217682128896 : UInt64))))
set_option maxHeartbeats 4000000 in
set_option maxRecDepth 100000 in
theorem c_Q_valueOf (l : Launch) (sz : Nat) (a1 : Int32) (r0 : UInt64) (hF : f_Q_valueOf a1 = some r0) : Met l y_Q_valueOf (qs_ws y_Q_valueOf b_Q_valueOf 1 (some .double)) ({ frames := 0, cells := 0, slots := 0, locals := 0 } : Room) (va_Pc ([.int a1] : List Value) (fun U => U.heap.size = sz ∧ qs_N U)) (va_Qd (fun (r : UInt64) (_ : Unit) => r = r0) (fun _ _ => True) (va_A [] sz)) 0 0 (va_A [] sz) := by
  refine Met.ofW (cc := b_Q_valueOf) (maxL := 1) (ret := (some .double)) (by decide +kernel) rfl ?_
  intro p e s m args below meth cd s₁ B hml hv
  obtain ⟨rfl, hsz, hNs⟩ := hv
  have hx := B.exec
  have hb := B.bytes
  have hr := B.returns
  have hts := atoms_spec (ws := (qs_ws y_Q_valueOf b_Q_valueOf 1 (some .double))) B.pre
  have hg : ∀ w ∈ qs_gt, w.before _ s = true := fun w h => hts w (List.mem_cons_of_mem _ h)
  have hown : s.vm.findClass R_Q = some m.cls := findClass_of_methodNamed B.named
  have hlocks := B.notSynchronized
  subst hsz
  have hD : va_D (va_A [] s.heap.size) [] := qs_D0
  have hP : va_P qs_G0 [] [] s.heap := qs_P0
  generalize hAe : va_A ([]) s.heap.size = A at hD ⊢
  have hA : ∀ q : Nat, s.heap.size ≤ q → A q := fun q h => by rw [← hAe]; exact Or.inr h
  have hS : va_S A s.heap s.heap [] := va_S.rf
  have hl := lv_entry ([.int a1] : List Value) (n := 1) (Nat.le_of_ble_eq_true rfl)
  rw [lg_entry_eq]
  generalize (lg_sl ([.int a1] : List Value) ++ List.replicate (1 - (lg_sl ([.int a1] : List Value)).length) Slot.unset).toArray = ls at hl ⊢
  have hl : lv_has ls 1 [(0, .int (a1))] := hl
  unfold f_Q_valueOf at hF
  obtain ⟨H, hHe⟩ : ∃ H, H = s.heap := ⟨_, rfl⟩
  obtain ⟨locs, hLe⟩ : ∃ L : List Loc, L = [] := ⟨_, rfl⟩
  rw [← hHe] at hP ⊢
  rw [← hLe]
  have hS : va_S A s.heap H locs := by rw [hHe, hLe]; exact hS
  refine lv_iload_n hx hb d_Q_valueOf_0 rfl (lv_at hl 0 rfl) ?_
  refine lv_i2d hx hb d_Q_valueOf_1 ?_
  refine lv_ldc2d (v := 4620693217682128896) hx hb hown (hg _ t_353) d_Q_valueOf_2 ?_
  obtain ⟨c1, hF⟩ := qs_nan_some hF
  refine lv_ddiv hx hb d_Q_valueOf_5 c1 ?_
  have h9 := Option.some.inj hF
  exact W.dret (v := FP.ddiv (FP.i2d a1) (4620693217682128896 : UInt64)) hx hb hr (fun t ht hW => ⟨⟨(FP.ddiv (FP.i2d a1) (4620693217682128896 : UInt64)), (), rfl, h9, trivial⟩, hS.F ht⟩) hS.2.2 d_Q_valueOf_6

theorem d_Q_wholeOf_0 : decode b_Q_wholeOf 0 = .ok (.iload_n 0, 1) := by decide +kernel
theorem d_Q_wholeOf_1 : decode b_Q_wholeOf 1 = .ok (.iconst 3, 1) := by decide +kernel
theorem d_Q_wholeOf_2 : decode b_Q_wholeOf 2 = .ok (.ishr, 1) := by decide +kernel
theorem d_Q_wholeOf_3 : decode b_Q_wholeOf 3 = .ok (.ireturn, 1) := by decide +kernel
def f_Q_wholeOf (a1 : Int32) : Option Int32 := (some (a1 >>> (3 &&& 31)))
set_option maxHeartbeats 4000000 in
set_option maxRecDepth 100000 in
theorem c_Q_wholeOf (l : Launch) (sz : Nat) (a1 : Int32) (r0 : Int32) (hF : f_Q_wholeOf a1 = some r0) : Met l y_Q_wholeOf (qs_ws y_Q_wholeOf b_Q_wholeOf 1 (some .int)) ({ frames := 0, cells := 0, slots := 0, locals := 0 } : Room) (va_Pc ([.int a1] : List Value) (fun U => U.heap.size = sz ∧ qs_N U)) (va_Qi (fun (r : Int32) (_ : Unit) => r = r0) (fun _ _ => True) (va_A [] sz)) 0 0 (va_A [] sz) := by
  refine Met.ofW (cc := b_Q_wholeOf) (maxL := 1) (ret := (some .int)) (by decide +kernel) rfl ?_
  intro p e s m args below meth cd s₁ B hml hv
  obtain ⟨rfl, hsz, hNs⟩ := hv
  have hx := B.exec
  have hb := B.bytes
  have hr := B.returns
  have hts := atoms_spec (ws := (qs_ws y_Q_wholeOf b_Q_wholeOf 1 (some .int))) B.pre
  have hg : ∀ w ∈ qs_gt, w.before _ s = true := fun w h => hts w (List.mem_cons_of_mem _ h)
  have hown : s.vm.findClass R_Q = some m.cls := findClass_of_methodNamed B.named
  have hlocks := B.notSynchronized
  subst hsz
  have hD : va_D (va_A [] s.heap.size) [] := qs_D0
  have hP : va_P qs_G0 [] [] s.heap := qs_P0
  generalize hAe : va_A ([]) s.heap.size = A at hD ⊢
  have hA : ∀ q : Nat, s.heap.size ≤ q → A q := fun q h => by rw [← hAe]; exact Or.inr h
  have hS : va_S A s.heap s.heap [] := va_S.rf
  have hl := lv_entry ([.int a1] : List Value) (n := 1) (Nat.le_of_ble_eq_true rfl)
  rw [lg_entry_eq]
  generalize (lg_sl ([.int a1] : List Value) ++ List.replicate (1 - (lg_sl ([.int a1] : List Value)).length) Slot.unset).toArray = ls at hl ⊢
  have hl : lv_has ls 1 [(0, .int (a1))] := hl
  unfold f_Q_wholeOf at hF
  obtain ⟨H, hHe⟩ : ∃ H, H = s.heap := ⟨_, rfl⟩
  obtain ⟨locs, hLe⟩ : ∃ L : List Loc, L = [] := ⟨_, rfl⟩
  rw [← hHe] at hP ⊢
  rw [← hLe]
  have hS : va_S A s.heap H locs := by rw [hHe, hLe]; exact hS
  refine lv_iload_n hx hb d_Q_wholeOf_0 rfl (lv_at hl 0 rfl) ?_
  refine lv_iconst (v := 3) hx hb d_Q_wholeOf_1 (by decide) ?_
  refine lv_ishr hx hb d_Q_wholeOf_2 ?_
  have h9 := Option.some.inj hF
  exact W.iret (v := a1 >>> (3 &&& 31)) hx hb hr (fun t ht hW => ⟨⟨(a1 >>> (3 &&& 31)), (), rfl, h9, trivial⟩, hS.F ht⟩) hS.2.2 d_Q_wholeOf_3

theorem d_Q_inRange_0 : decode b_Q_inRange 0 = .ok (.lload_n 0, 1) := by decide +kernel
theorem d_Q_inRange_1 : decode b_Q_inRange 1 = .ok (.ldc2_w 209, 3) := by decide +kernel
theorem d_Q_inRange_4 : decode b_Q_inRange 4 = .ok (.lcmp, 1) := by decide +kernel
theorem d_Q_inRange_5 : decode b_Q_inRange 5 = .ok (.ifCond .le 6, 3) := by decide +kernel
theorem d_Q_inRange_8 : decode b_Q_inRange 8 = .ok (.ldc 147, 2) := by decide +kernel
theorem d_Q_inRange_10 : decode b_Q_inRange 10 = .ok (.ireturn, 1) := by decide +kernel
theorem d_Q_inRange_11 : decode b_Q_inRange 11 = .ok (.lload_n 0, 1) := by decide +kernel
theorem d_Q_inRange_12 : decode b_Q_inRange 12 = .ok (.ldc2_w 211, 3) := by decide +kernel
theorem d_Q_inRange_15 : decode b_Q_inRange 15 = .ok (.lcmp, 1) := by decide +kernel
theorem d_Q_inRange_16 : decode b_Q_inRange 16 = .ok (.ifCond .ge 8, 3) := by decide +kernel
theorem d_Q_inRange_19 : decode b_Q_inRange 19 = .ok (.ldc 146, 2) := by decide +kernel
theorem d_Q_inRange_21 : decode b_Q_inRange 21 = .ok (.goto 5, 3) := by decide +kernel
theorem d_Q_inRange_24 : decode b_Q_inRange 24 = .ok (.lload_n 0, 1) := by decide +kernel
theorem d_Q_inRange_25 : decode b_Q_inRange 25 = .ok (.l2i, 1) := by decide +kernel
theorem d_Q_inRange_26 : decode b_Q_inRange 26 = .ok (.ireturn, 1) := by decide +kernel
def f_Q_inRange (a1 : Int64) : Option Int32 := (if (lg_cmp a1 (131072 : Int64)) ≤ 0 then (if 0 ≤ (lg_cmp a1 (-131072 : Int64)) then (some (a1.toInt32)) else (some ((-131072)))) else (some (131072)))
set_option maxHeartbeats 4000000 in
set_option maxRecDepth 100000 in
theorem c_Q_inRange (l : Launch) (sz : Nat) (a1 : Int64) (r0 : Int32) (hF : f_Q_inRange a1 = some r0) : Met l y_Q_inRange (qs_ws y_Q_inRange b_Q_inRange 2 (some .int)) ({ frames := 0, cells := 0, slots := 0, locals := 0 } : Room) (va_Pc ([.long a1] : List Value) (fun U => U.heap.size = sz ∧ qs_N U)) (va_Qi (fun (r : Int32) (_ : Unit) => r = r0) (fun _ _ => True) (va_A [] sz)) 0 0 (va_A [] sz) := by
  refine Met.ofW (cc := b_Q_inRange) (maxL := 2) (ret := (some .int)) (by decide +kernel) rfl ?_
  intro p e s m args below meth cd s₁ B hml hv
  obtain ⟨rfl, hsz, hNs⟩ := hv
  have hx := B.exec
  have hb := B.bytes
  have hr := B.returns
  have hts := atoms_spec (ws := (qs_ws y_Q_inRange b_Q_inRange 2 (some .int))) B.pre
  have hg : ∀ w ∈ qs_gt, w.before _ s = true := fun w h => hts w (List.mem_cons_of_mem _ h)
  have hown : s.vm.findClass R_Q = some m.cls := findClass_of_methodNamed B.named
  have hlocks := B.notSynchronized
  subst hsz
  have hD : va_D (va_A [] s.heap.size) [] := qs_D0
  have hP : va_P qs_G0 [] [] s.heap := qs_P0
  generalize hAe : va_A ([]) s.heap.size = A at hD ⊢
  have hA : ∀ q : Nat, s.heap.size ≤ q → A q := fun q h => by rw [← hAe]; exact Or.inr h
  have hS : va_S A s.heap s.heap [] := va_S.rf
  have hl := lv_entry ([.long a1] : List Value) (n := 2) (Nat.le_of_ble_eq_true rfl)
  rw [lg_entry_eq]
  generalize (lg_sl ([.long a1] : List Value) ++ List.replicate (2 - (lg_sl ([.long a1] : List Value)).length) Slot.unset).toArray = ls at hl ⊢
  have hl : lv_has ls 2 [(0, .long (a1))] := hl
  unfold f_Q_inRange at hF
  obtain ⟨H, hHe⟩ : ∃ H, H = s.heap := ⟨_, rfl⟩
  obtain ⟨locs, hLe⟩ : ∃ L : List Loc, L = [] := ⟨_, rfl⟩
  rw [← hHe] at hP ⊢
  rw [← hLe]
  have hS : va_S A s.heap H locs := by rw [hHe, hLe]; exact hS
  refine lv_lload_n hx hb d_Q_inRange_0 rfl (lv_at hl 0 rfl) ?_
  refine lv_ldc2 (v := 131072) hx hb hown (hg _ t_472) d_Q_inRange_1 ?_
  refine W.lcmp hx hb d_Q_inRange_4 ?_
  refine lv_if_le (tgt := 11) hx hb d_Q_inRange_5 (by decide) (fun c1 => ?_) (fun c1 => ?_)
  · have hF := qs_pos c1 hF
    refine lv_lload_n hx hb d_Q_inRange_11 rfl (lv_at hl 0 rfl) ?_
    refine lv_ldc2 (v := (-131072)) hx hb hown (hg _ t_473) d_Q_inRange_12 ?_
    refine W.lcmp hx hb d_Q_inRange_15 ?_
    refine lv_if_ge (tgt := 24) hx hb d_Q_inRange_16 (by decide) (fun c2 => ?_) (fun c2 => ?_)
    · have hF := qs_pos c2 hF
      refine lv_lload_n hx hb d_Q_inRange_24 rfl (lv_at hl 0 rfl) ?_
      refine lv_l2i (v := a1.toInt32) hx hb d_Q_inRange_25 rfl ?_
      have h9 := Option.some.inj hF
      exact W.iret (v := a1.toInt32) hx hb hr (fun t ht hW => ⟨⟨(a1.toInt32), (), rfl, h9, trivial⟩, hS.F ht⟩) hS.2.2 d_Q_inRange_26
    · have hF := qs_neg c2 hF
      refine lv_ldc (v := (-131072)) hx hb hown (hg _ t_415) d_Q_inRange_19 ?_
      refine lv_goto (tgt := 26) hx hb d_Q_inRange_21 (by decide) ?_
      have h9 := Option.some.inj hF
      exact W.iret (v := (-131072)) hx hb hr (fun t ht hW => ⟨⟨(-131072), (), rfl, h9, trivial⟩, hS.F ht⟩) hS.2.2 d_Q_inRange_26
  · have hF := qs_neg c1 hF
    refine lv_ldc (v := 131072) hx hb hown (hg _ t_416) d_Q_inRange_8 ?_
    have h9 := Option.some.inj hF
    exact W.iret (v := 131072) hx hb hr (fun t ht hW => ⟨⟨131072, (), rfl, h9, trivial⟩, hS.F ht⟩) hS.2.2 d_Q_inRange_10
end
section
theorem d_E_isThere_0 : decode b_E_isThere 0 = .ok (.iload_n 1, 1) := by decide +kernel
theorem d_E_isThere_1 : decode b_E_isThere 1 = .ok (.ifCond .lt 22, 3) := by decide +kernel
theorem d_E_isThere_4 : decode b_E_isThere 4 = .ok (.iload_n 1, 1) := by decide +kernel
theorem d_E_isThere_5 : decode b_E_isThere 5 = .ok (.bipush 12, 2) := by decide +kernel
theorem d_E_isThere_7 : decode b_E_isThere 7 = .ok (.if_icmp .ge 16, 3) := by decide +kernel
theorem d_E_isThere_10 : decode b_E_isThere 10 = .ok (.aload_n 0, 1) := by decide +kernel
theorem d_E_isThere_11 : decode b_E_isThere 11 = .ok (.getfield 9, 3) := by decide +kernel
theorem d_E_isThere_14 : decode b_E_isThere 14 = .ok (.iload_n 1, 1) := by decide +kernel
theorem d_E_isThere_15 : decode b_E_isThere 15 = .ok (.baload, 1) := by decide +kernel
theorem d_E_isThere_16 : decode b_E_isThere 16 = .ok (.ifCond .eq 7, 3) := by decide +kernel
theorem d_E_isThere_19 : decode b_E_isThere 19 = .ok (.iconst 1, 1) := by decide +kernel
theorem d_E_isThere_20 : decode b_E_isThere 20 = .ok (.goto 4, 3) := by decide +kernel
theorem d_E_isThere_23 : decode b_E_isThere 23 = .ok (.iconst 0, 1) := by decide +kernel
theorem d_E_isThere_24 : decode b_E_isThere 24 = .ok (.ireturn, 1) := by decide +kernel
def f_E_isThere (g : Sg) (a1 : Int32) : Option (Int32 × Sg) := (if a1 < 0 then (some (0, g)) else (if 12 ≤ a1 then (some (0, g)) else (qs_in (a1) 12 (if (g 7 a1.toNatClampNeg) = 0 then (some (0, g)) else (some (1, g))))))
set_option maxHeartbeats 4000000 in
set_option maxRecDepth 100000 in
theorem c_E_isThere (l : Launch) (dC : Nat → ClassId) (dI : Nat → Nat → Nat) (h : Nat → Nat) (c : Nat → ClassId) (sz : Nat) (g : Sg) (a1 : Int32) (r0 : Int32) (u0 : Sg) (hF : f_E_isThere g a1 = some (r0, u0)) : Met l y_E_isThere (qs_ws y_E_isThere b_E_isThere 2 (some .boolean)) ({ frames := 0, cells := 0, slots := 0, locals := 0 } : Room) (va_Pc ([.ref (h 1), .int a1] : List Value) (fun U => U.heap.size = sz ∧ va_P (dC, dI) vwCl (qs_W h c g) U.heap ∧ va_K (dC, dI) vwCl (qs_T c) U ∧ va_D (fun _ => True) (qs_W h c g) ∧ qs_N U)) (va_Qi (fun (r : Int32) (u : Sg) => r = r0 ∧ u = u0) (qs_at dC dI h c (va_A (qs_W h c g) sz)) (va_A (qs_W h c g) sz)) 0 0 (va_A (qs_W h c g) sz) := by
  refine Met.ofW (cc := b_E_isThere) (maxL := 2) (ret := (some .boolean)) (by decide +kernel) rfl ?_
  intro p e s m args below meth cd s₁ B hml hv
  obtain ⟨rfl, hsz, hP, hK, hD0, hNs⟩ := hv
  have hx := B.exec
  have hb := B.bytes
  have hr := B.returns
  have hts := atoms_spec (ws := (qs_ws y_E_isThere b_E_isThere 2 (some .boolean))) B.pre
  have hg : ∀ w ∈ qs_gt, w.before _ s = true := fun w h => hts w (List.mem_cons_of_mem _ h)
  have hown : s.vm.findClass R_E = some m.cls := findClass_of_methodNamed B.named
  have hlocks := B.notSynchronized
  subst hsz
  have hD := hD0.self (sz := s.heap.size)
  generalize hAe : va_A (qs_W h c g) s.heap.size = A at hD ⊢
  have hA : ∀ q : Nat, s.heap.size ≤ q → A q := fun q h => by rw [← hAe]; exact Or.inr h
  have hS : va_S A s.heap s.heap [] := va_S.rf
  have hl := lv_entry ([.ref (h 1), .int a1] : List Value) (n := 2) (Nat.le_of_ble_eq_true rfl)
  rw [lg_entry_eq]
  generalize (lg_sl ([.ref (h 1), .int a1] : List Value) ++ List.replicate (2 - (lg_sl ([.ref (h 1), .int a1] : List Value)).length) Slot.unset).toArray = ls at hl ⊢
  have hl : lv_has ls 2 [(0, .ref (h 1)), (1, .int (a1))] := hl
  unfold f_E_isThere at hF
  obtain ⟨H, hHe⟩ : ∃ H, H = s.heap := ⟨_, rfl⟩
  obtain ⟨locs, hLe⟩ : ∃ L : List Loc, L = [] := ⟨_, rfl⟩
  rw [← hHe] at hP ⊢
  rw [← hLe]
  have hS : va_S A s.heap H locs := by rw [hHe, hLe]; exact hS
  refine lv_iload_n hx hb d_E_isThere_0 rfl (lv_at hl 1 rfl) ?_
  refine lv_if_lt (tgt := 23) hx hb d_E_isThere_1 (by decide) (fun c1 => ?_) (fun c1 => ?_)
  · have hF := qs_pos c1 hF
    refine lv_iconst (v := 0) hx hb d_E_isThere_23 (by decide) ?_
    obtain ⟨h8, h9⟩ := qs_ret hF
    exact W.zret (ty := .boolean) (v := 0) hx hb hr rfl (fun t ht hW => ⟨⟨0, g, rfl, ⟨h8, h9⟩, by rw [ht]; exact hP, va_K.moved hW.alike hK, hD⟩, hS.F ht⟩) hS.2.2 d_E_isThere_24
  · have hF := qs_neg c1 hF
    refine lv_iload_n hx hb d_E_isThere_4 rfl (lv_at hl 1 rfl) ?_
    refine lv_bipush (v := 12) hx hb d_E_isThere_5 (by decide) ?_
    refine lv_icmp_ge (tgt := 23) hx hb d_E_isThere_7 (by decide) (fun c2 => ?_) (fun c2 => ?_)
    · have hF := qs_pos c2 hF
      refine lv_iconst (v := 0) hx hb d_E_isThere_23 (by decide) ?_
      obtain ⟨h8, h9⟩ := qs_ret hF
      exact W.zret (ty := .boolean) (v := 0) hx hb hr rfl (fun t ht hW => ⟨⟨0, g, rfl, ⟨h8, h9⟩, by rw [ht]; exact hP, va_K.moved hW.alike hK, hD⟩, hS.F ht⟩) hS.2.2 d_E_isThere_24
    · have hF := qs_neg c2 hF
      refine lv_aload_n hx hb d_E_isThere_10 rfl (lv_at hl 0 rfl) ?_
      refine va_get (D := (dC, dI)) (ci := 0) (v := .ref (h 7)) (C := R_E) (T := T_E) (N := 2) hx hb hg in_E hown hK hP 1 rfl rfl 0 (by decide) (hg _ t_30) (fun _ h9 => h9) rfl d_E_isThere_11 ?_
      refine lv_iload_n hx hb d_E_isThere_14 rfl (lv_at hl 1 rfl) ?_
      obtain ⟨c3, hF⟩ := qs_in_some hF
      refine va_zald hx hb hK hP 7 0 rfl rfl c3 d_E_isThere_15 ?_
      refine lv_if_eq (tgt := 23) hx hb d_E_isThere_16 (by decide) (fun c4 => ?_) (fun c4 => ?_)
      · have hF := qs_pos c4 hF
        refine lv_iconst (v := 0) hx hb d_E_isThere_23 (by decide) ?_
        obtain ⟨h8, h9⟩ := qs_ret hF
        exact W.zret (ty := .boolean) (v := 0) hx hb hr rfl (fun t ht hW => ⟨⟨0, g, rfl, ⟨h8, h9⟩, by rw [ht]; exact hP, va_K.moved hW.alike hK, hD⟩, hS.F ht⟩) hS.2.2 d_E_isThere_24
      · have hF := qs_neg c4 hF
        refine lv_iconst (v := 1) hx hb d_E_isThere_19 (by decide) ?_
        refine lv_goto (tgt := 24) hx hb d_E_isThere_20 (by decide) ?_
        obtain ⟨h8, h9⟩ := qs_ret hF
        exact W.zret (ty := .boolean) (v := 1) hx hb hr rfl (fun t ht hW => ⟨⟨1, g, rfl, ⟨h8, h9⟩, by rw [ht]; exact hP, va_K.moved hW.alike hK, hD⟩, hS.F ht⟩) hS.2.2 d_E_isThere_24

theorem d_E_number_0 : decode b_E_number 0 = .ok (.iconst 0, 1) := by decide +kernel
theorem d_E_number_1 : decode b_E_number 1 = .ok (.istore_n 1, 1) := by decide +kernel
theorem d_E_number_2 : decode b_E_number 2 = .ok (.iconst 0, 1) := by decide +kernel
theorem d_E_number_3 : decode b_E_number 3 = .ok (.istore_n 2, 1) := by decide +kernel
theorem d_E_number_4 : decode b_E_number 4 = .ok (.iload_n 2, 1) := by decide +kernel
theorem d_E_number_5 : decode b_E_number 5 = .ok (.bipush 12, 2) := by decide +kernel
theorem d_E_number_7 : decode b_E_number 7 = .ok (.if_icmp .ge 21, 3) := by decide +kernel
theorem d_E_number_10 : decode b_E_number 10 = .ok (.aload_n 0, 1) := by decide +kernel
theorem d_E_number_11 : decode b_E_number 11 = .ok (.getfield 9, 3) := by decide +kernel
theorem d_E_number_14 : decode b_E_number 14 = .ok (.iload_n 2, 1) := by decide +kernel
theorem d_E_number_15 : decode b_E_number 15 = .ok (.baload, 1) := by decide +kernel
theorem d_E_number_16 : decode b_E_number 16 = .ok (.ifCond .eq 6, 3) := by decide +kernel
theorem d_E_number_19 : decode b_E_number 19 = .ok (.iinc 1 1, 3) := by decide +kernel
theorem d_E_number_22 : decode b_E_number 22 = .ok (.iinc 2 1, 3) := by decide +kernel
theorem d_E_number_25 : decode b_E_number 25 = .ok (.goto (-21), 3) := by decide +kernel
theorem d_E_number_28 : decode b_E_number 28 = .ok (.iload_n 1, 1) := by decide +kernel
theorem d_E_number_29 : decode b_E_number 29 = .ok (.ireturn, 1) := by decide +kernel
def f_E_number_22 (k4 : Sg → Int32 → Int32 → Option (Int32 × Sg)) (g : Sg) (x1 : Int32) (x2 : Int32) : Option (Int32 × Sg) := (k4 g (x1) (x2 + 1))
def f_E_number_4  : Nat → Sg → Int32 → Int32 → Option (Int32 × Sg)
  | 0, _, _, _ => none
  | n + 1, g, x1, x2 => (if 12 ≤ x2 then (some (x1, g)) else (qs_in (x2) 12 (if (g 7 x2.toNatClampNeg) = 0 then (f_E_number_22 (fun g x1 x2 => f_E_number_4  n g x1 x2) g (x1) (x2)) else (f_E_number_22 (fun g x1 x2 => f_E_number_4  n g x1 x2) g (x1 + 1) (x2)))))
def f_E_number (g : Sg)  : Option (Int32 × Sg) := (f_E_number_4 200 g (0) (0))
set_option maxHeartbeats 4000000 in
set_option maxRecDepth 100000 in
theorem c_E_number (l : Launch) (dC : Nat → ClassId) (dI : Nat → Nat → Nat) (h : Nat → Nat) (c : Nat → ClassId) (sz : Nat) (g : Sg)  (r0 : Int32) (u0 : Sg) (hF : f_E_number g  = some (r0, u0)) : Met l y_E_number (qs_ws y_E_number b_E_number 3 (some .int)) ({ frames := 0, cells := 0, slots := 0, locals := 0 } : Room) (va_Pc ([.ref (h 1)] : List Value) (fun U => U.heap.size = sz ∧ va_P (dC, dI) vwCl (qs_W h c g) U.heap ∧ va_K (dC, dI) vwCl (qs_T c) U ∧ va_D (fun _ => True) (qs_W h c g) ∧ qs_N U)) (va_Qi (fun (r : Int32) (u : Sg) => r = r0 ∧ u = u0) (qs_at dC dI h c (va_A (qs_W h c g) sz)) (va_A (qs_W h c g) sz)) 0 0 (va_A (qs_W h c g) sz) := by
  refine Met.ofW (cc := b_E_number) (maxL := 3) (ret := (some .int)) (by decide +kernel) rfl ?_
  intro p e s m args below meth cd s₁ B hml hv
  obtain ⟨rfl, hsz, hP, hK, hD0, hNs⟩ := hv
  have hx := B.exec
  have hb := B.bytes
  have hr := B.returns
  have hts := atoms_spec (ws := (qs_ws y_E_number b_E_number 3 (some .int))) B.pre
  have hg : ∀ w ∈ qs_gt, w.before _ s = true := fun w h => hts w (List.mem_cons_of_mem _ h)
  have hown : s.vm.findClass R_E = some m.cls := findClass_of_methodNamed B.named
  have hlocks := B.notSynchronized
  subst hsz
  have hD := hD0.self (sz := s.heap.size)
  generalize hAe : va_A (qs_W h c g) s.heap.size = A at hD ⊢
  have hA : ∀ q : Nat, s.heap.size ≤ q → A q := fun q h => by rw [← hAe]; exact Or.inr h
  have hS : va_S A s.heap s.heap [] := va_S.rf
  have kb_22 : ∀ (k4 : Sg → Int32 → Int32 → Option (Int32 × Sg)), (∀ (g : Sg) (x1 : Int32) (x2 : Int32) (H : Heap) (locs : List Loc) (ls : Array Slot), va_P (dC, dI) vwCl (qs_W h c g) H → va_D A (qs_W h c g) → va_S A s.heap H locs → lv_has ls 3 [(0, .ref (h 1)), (1, .int (x1)), (2, .int (x2))] → k4 g x1 x2 = some (r0, u0) → W p l e (headSpec (qs_ws y_E_number b_E_number 3 (some .int)) ({ frames := 0, cells := 0, slots := 0, locals := 0 } : Room)).room s m ([.ref (h 1)] : List Value).toArray below meth cd H locs 0 0 (MQ below (va_Qi (fun (r : Int32) (u : Sg) => r = r0 ∧ u = u0) (qs_at dC dI h c A) A) ([.ref (h 1)] : List Value).toArray s 0 0 A) (F0 m 4 ls [])) → ∀ (g : Sg) (x1 : Int32) (x2 : Int32) (H : Heap) (locs : List Loc) (ls : Array Slot), va_P (dC, dI) vwCl (qs_W h c g) H → va_D A (qs_W h c g) → va_S A s.heap H locs → lv_has ls 3 [(0, .ref (h 1)), (1, .int (x1)), (2, .int (x2))] → f_E_number_22 k4  g x1 x2 = some (r0, u0) → W p l e (headSpec (qs_ws y_E_number b_E_number 3 (some .int)) ({ frames := 0, cells := 0, slots := 0, locals := 0 } : Room)).room s m ([.ref (h 1)] : List Value).toArray below meth cd H locs 0 0 (MQ below (va_Qi (fun (r : Int32) (u : Sg) => r = r0 ∧ u = u0) (qs_at dC dI h c A) A) ([.ref (h 1)] : List Value).toArray s 0 0 A) (F0 m 22 ls []) := by
    intro k4 hk4
    intro g x1 x2 H locs ls hP hD hS hl hF
    unfold f_E_number_22 at hF
    refine lv_iinc (v := x2 + 1) (lv' := [(2, .int (x2 + 1)), (0, .ref (h 1)), (1, .int (x1))]) hx hb d_E_number_22 hl (k := 2) rfl (by rfl) (by decide) rfl (fun ls hl => ?_)
    refine lv_goto (tgt := 4) hx hb d_E_number_25 (by decide) ?_
    exact hk4 g (x1) (x2 + 1) H locs ls hP hD hS (lv_sub hl [1, 2, 0] rfl) hF
  have kb_4 : ∀ n : Nat, ∀ (g : Sg) (x1 : Int32) (x2 : Int32) (H : Heap) (locs : List Loc) (ls : Array Slot), va_P (dC, dI) vwCl (qs_W h c g) H → va_D A (qs_W h c g) → va_S A s.heap H locs → lv_has ls 3 [(0, .ref (h 1)), (1, .int (x1)), (2, .int (x2))] → f_E_number_4 n g x1 x2 = some (r0, u0) → W p l e (headSpec (qs_ws y_E_number b_E_number 3 (some .int)) ({ frames := 0, cells := 0, slots := 0, locals := 0 } : Room)).room s m ([.ref (h 1)] : List Value).toArray below meth cd H locs 0 0 (MQ below (va_Qi (fun (r : Int32) (u : Sg) => r = r0 ∧ u = u0) (qs_at dC dI h c A) A) ([.ref (h 1)] : List Value).toArray s 0 0 A) (F0 m 4 ls []) := by
    intro n
    induction n with
    | zero =>
      intro g x1 x2 H locs ls hP hD hS hl hF
      exact nomatch (show (none : Option (Int32 × Sg)) = some _ from hF)
    | succ n ih =>
      intro g x1 x2 H locs ls hP hD hS hl hF
      rw [f_E_number_4] at hF
      refine lv_iload_n hx hb d_E_number_4 rfl (lv_at hl 2 rfl) ?_
      refine lv_bipush (v := 12) hx hb d_E_number_5 (by decide) ?_
      refine lv_icmp_ge (tgt := 28) hx hb d_E_number_7 (by decide) (fun c1 => ?_) (fun c1 => ?_)
      · have hF := qs_pos c1 hF
        refine lv_iload_n hx hb d_E_number_28 rfl (lv_at hl 1 rfl) ?_
        obtain ⟨h8, h9⟩ := qs_ret hF
        exact W.iret (v := x1) hx hb hr (fun t ht hW => ⟨⟨x1, g, rfl, ⟨h8, h9⟩, by rw [ht]; exact hP, va_K.moved hW.alike hK, hD⟩, hS.F ht⟩) hS.2.2 d_E_number_29
      · have hF := qs_neg c1 hF
        refine lv_aload_n hx hb d_E_number_10 rfl (lv_at hl 0 rfl) ?_
        refine va_get (D := (dC, dI)) (ci := 0) (v := .ref (h 7)) (C := R_E) (T := T_E) (N := 2) hx hb hg in_E hown hK hP 1 rfl rfl 0 (by decide) (hg _ t_30) (fun _ h9 => h9) rfl d_E_number_11 ?_
        refine lv_iload_n hx hb d_E_number_14 rfl (lv_at hl 2 rfl) ?_
        obtain ⟨c2, hF⟩ := qs_in_some hF
        refine va_zald hx hb hK hP 7 0 rfl rfl c2 d_E_number_15 ?_
        refine lv_if_eq (tgt := 22) hx hb d_E_number_16 (by decide) (fun c3 => ?_) (fun c3 => ?_)
        · have hF := qs_pos c3 hF
          exact kb_22 _ ih g (x1) (x2) H locs ls hP hD hS (lv_sub hl [0, 1, 2] rfl) hF
        · have hF := qs_neg c3 hF
          refine lv_iinc (v := x1 + 1) (lv' := [(1, .int (x1 + 1)), (0, .ref (h 1)), (2, .int (x2))]) hx hb d_E_number_19 hl (k := 1) rfl (by rfl) (by decide) rfl (fun ls hl => ?_)
          exact kb_22 _ ih g (x1 + 1) (x2) H locs ls hP hD hS (lv_sub hl [1, 0, 2] rfl) hF
  have hl := lv_entry ([.ref (h 1)] : List Value) (n := 3) (Nat.le_of_ble_eq_true rfl)
  rw [lg_entry_eq]
  generalize (lg_sl ([.ref (h 1)] : List Value) ++ List.replicate (3 - (lg_sl ([.ref (h 1)] : List Value)).length) Slot.unset).toArray = ls at hl ⊢
  have hl : lv_has ls 3 [(0, .ref (h 1))] := hl
  unfold f_E_number at hF
  obtain ⟨H, hHe⟩ : ∃ H, H = s.heap := ⟨_, rfl⟩
  obtain ⟨locs, hLe⟩ : ∃ L : List Loc, L = [] := ⟨_, rfl⟩
  rw [← hHe] at hP ⊢
  rw [← hLe]
  have hS : va_S A s.heap H locs := by rw [hHe, hLe]; exact hS
  refine lv_iconst (v := 0) hx hb d_E_number_0 (by decide) ?_
  refine lv_istore_n (lv' := [(1, .int (0)), (0, .ref (h 1))]) hx hb d_E_number_1 rfl hl (by decide) rfl (fun ls hl => ?_)
  refine lv_iconst (v := 0) hx hb d_E_number_2 (by decide) ?_
  refine lv_istore_n (lv' := [(2, .int (0)), (1, .int (0)), (0, .ref (h 1))]) hx hb d_E_number_3 rfl hl (by decide) rfl (fun ls hl => ?_)
  exact kb_4 200 g (0) (0) H locs ls hP hD hS (lv_sub hl [2, 1, 0] rfl) hF

theorem d_E_create_0 : decode b_E_create 0 = .ok (.iconst 0, 1) := by decide +kernel
theorem d_E_create_1 : decode b_E_create 1 = .ok (.istore_n 1, 1) := by decide +kernel
theorem d_E_create_2 : decode b_E_create 2 = .ok (.iload_n 1, 1) := by decide +kernel
theorem d_E_create_3 : decode b_E_create 3 = .ok (.bipush 12, 2) := by decide +kernel
theorem d_E_create_5 : decode b_E_create 5 = .ok (.if_icmp .ge 27, 3) := by decide +kernel
theorem d_E_create_8 : decode b_E_create 8 = .ok (.aload_n 0, 1) := by decide +kernel
theorem d_E_create_9 : decode b_E_create 9 = .ok (.getfield 9, 3) := by decide +kernel
theorem d_E_create_12 : decode b_E_create 12 = .ok (.iload_n 1, 1) := by decide +kernel
theorem d_E_create_13 : decode b_E_create 13 = .ok (.baload, 1) := by decide +kernel
theorem d_E_create_14 : decode b_E_create 14 = .ok (.ifCond .ne 12, 3) := by decide +kernel
theorem d_E_create_17 : decode b_E_create 17 = .ok (.aload_n 0, 1) := by decide +kernel
theorem d_E_create_18 : decode b_E_create 18 = .ok (.getfield 9, 3) := by decide +kernel
theorem d_E_create_21 : decode b_E_create 21 = .ok (.iload_n 1, 1) := by decide +kernel
theorem d_E_create_22 : decode b_E_create 22 = .ok (.iconst 1, 1) := by decide +kernel
theorem d_E_create_23 : decode b_E_create 23 = .ok (.bastore, 1) := by decide +kernel
theorem d_E_create_24 : decode b_E_create 24 = .ok (.iload_n 1, 1) := by decide +kernel
theorem d_E_create_25 : decode b_E_create 25 = .ok (.ireturn, 1) := by decide +kernel
theorem d_E_create_26 : decode b_E_create 26 = .ok (.iinc 1 1, 3) := by decide +kernel
theorem d_E_create_29 : decode b_E_create 29 = .ok (.goto (-27), 3) := by decide +kernel
theorem d_E_create_32 : decode b_E_create 32 = .ok (.iconst (-1), 1) := by decide +kernel
theorem d_E_create_33 : decode b_E_create 33 = .ok (.ireturn, 1) := by decide +kernel
def f_E_create_2  : Nat → Sg → Int32 → Option (Int32 × Sg)
  | 0, _, _ => none
  | n + 1, g, x1 => (if 12 ≤ x1 then (some ((-1), g)) else (qs_in (x1) 12 (if (g 7 x1.toNatClampNeg) = 0 then (qs_in (x1) 12 (qs_st (qs_a g 7 x1.toNatClampNeg (vp_nar .boolean (1 : Int32))) fun u5 => (some (x1, u5)))) else (f_E_create_2 n g (x1 + 1)))))
def f_E_create (g : Sg)  : Option (Int32 × Sg) := (f_E_create_2 200 g (0))
set_option maxHeartbeats 4000000 in
set_option maxRecDepth 100000 in
theorem c_E_create (l : Launch) (dC : Nat → ClassId) (dI : Nat → Nat → Nat) (h : Nat → Nat) (c : Nat → ClassId) (sz : Nat) (g : Sg)  (r0 : Int32) (u0 : Sg) (hF : f_E_create g  = some (r0, u0)) : Met l y_E_create (qs_ws y_E_create b_E_create 2 (some .int)) ({ frames := 0, cells := 0, slots := 0, locals := 0 } : Room) (va_Pc ([.ref (h 1)] : List Value) (fun U => U.heap.size = sz ∧ va_P (dC, dI) vwCl (qs_W h c g) U.heap ∧ va_K (dC, dI) vwCl (qs_T c) U ∧ va_D (fun _ => True) (qs_W h c g) ∧ qs_N U)) (va_Qi (fun (r : Int32) (u : Sg) => r = r0 ∧ u = u0) (qs_at dC dI h c (va_A (qs_W h c g) sz)) (va_A (qs_W h c g) sz)) 0 0 (va_A (qs_W h c g) sz) := by
  refine Met.ofW (cc := b_E_create) (maxL := 2) (ret := (some .int)) (by decide +kernel) rfl ?_
  intro p e s m args below meth cd s₁ B hml hv
  obtain ⟨rfl, hsz, hP, hK, hD0, hNs⟩ := hv
  have hx := B.exec
  have hb := B.bytes
  have hr := B.returns
  have hts := atoms_spec (ws := (qs_ws y_E_create b_E_create 2 (some .int))) B.pre
  have hg : ∀ w ∈ qs_gt, w.before _ s = true := fun w h => hts w (List.mem_cons_of_mem _ h)
  have hown : s.vm.findClass R_E = some m.cls := findClass_of_methodNamed B.named
  have hlocks := B.notSynchronized
  subst hsz
  have hD := hD0.self (sz := s.heap.size)
  generalize hAe : va_A (qs_W h c g) s.heap.size = A at hD ⊢
  have hA : ∀ q : Nat, s.heap.size ≤ q → A q := fun q h => by rw [← hAe]; exact Or.inr h
  have hS : va_S A s.heap s.heap [] := va_S.rf
  have kb_2 : ∀ n : Nat, ∀ (g : Sg) (x1 : Int32) (H : Heap) (locs : List Loc) (ls : Array Slot), va_P (dC, dI) vwCl (qs_W h c g) H → va_D A (qs_W h c g) → va_S A s.heap H locs → lv_has ls 2 [(0, .ref (h 1)), (1, .int (x1))] → f_E_create_2 n g x1 = some (r0, u0) → W p l e (headSpec (qs_ws y_E_create b_E_create 2 (some .int)) ({ frames := 0, cells := 0, slots := 0, locals := 0 } : Room)).room s m ([.ref (h 1)] : List Value).toArray below meth cd H locs 0 0 (MQ below (va_Qi (fun (r : Int32) (u : Sg) => r = r0 ∧ u = u0) (qs_at dC dI h c A) A) ([.ref (h 1)] : List Value).toArray s 0 0 A) (F0 m 2 ls []) := by
    intro n
    induction n with
    | zero =>
      intro g x1 H locs ls hP hD hS hl hF
      exact nomatch (show (none : Option (Int32 × Sg)) = some _ from hF)
    | succ n ih =>
      intro g x1 H locs ls hP hD hS hl hF
      rw [f_E_create_2] at hF
      refine lv_iload_n hx hb d_E_create_2 rfl (lv_at hl 1 rfl) ?_
      refine lv_bipush (v := 12) hx hb d_E_create_3 (by decide) ?_
      refine lv_icmp_ge (tgt := 32) hx hb d_E_create_5 (by decide) (fun c1 => ?_) (fun c1 => ?_)
      · have hF := qs_pos c1 hF
        refine lv_iconst (v := (-1)) hx hb d_E_create_32 (by decide) ?_
        obtain ⟨h8, h9⟩ := qs_ret hF
        exact W.iret (v := (-1)) hx hb hr (fun t ht hW => ⟨⟨(-1), g, rfl, ⟨h8, h9⟩, by rw [ht]; exact hP, va_K.moved hW.alike hK, hD⟩, hS.F ht⟩) hS.2.2 d_E_create_33
      · have hF := qs_neg c1 hF
        refine lv_aload_n hx hb d_E_create_8 rfl (lv_at hl 0 rfl) ?_
        refine va_get (D := (dC, dI)) (ci := 0) (v := .ref (h 7)) (C := R_E) (T := T_E) (N := 2) hx hb hg in_E hown hK hP 1 rfl rfl 0 (by decide) (hg _ t_30) (fun _ h9 => h9) rfl d_E_create_9 ?_
        refine lv_iload_n hx hb d_E_create_12 rfl (lv_at hl 1 rfl) ?_
        obtain ⟨c2, hF⟩ := qs_in_some hF
        refine va_zald hx hb hK hP 7 0 rfl rfl c2 d_E_create_13 ?_
        refine lv_if_ne (tgt := 26) hx hb d_E_create_14 (by decide) (fun c3 => ?_) (fun c3 => ?_)
        · have hF := qs_neg c3 hF
          refine lv_iinc (v := x1 + 1) (lv' := [(1, .int (x1 + 1)), (0, .ref (h 1))]) hx hb d_E_create_26 hl (k := 1) rfl (by rfl) (by decide) rfl (fun ls hl => ?_)
          refine lv_goto (tgt := 2) hx hb d_E_create_29 (by decide) ?_
          exact ih g (x1 + 1) H locs ls hP hD hS (lv_sub hl [1, 0] rfl) hF
        · have hF := qs_pos c3 hF
          refine lv_aload_n hx hb d_E_create_17 rfl (lv_at hl 0 rfl) ?_
          refine va_get (D := (dC, dI)) (ci := 0) (v := .ref (h 7)) (C := R_E) (T := T_E) (N := 2) hx hb hg in_E hown hK hP 1 rfl rfl 0 (by decide) (hg _ t_30) (fun _ h9 => h9) rfl d_E_create_18 ?_
          refine lv_iload_n hx hb d_E_create_21 rfl (lv_at hl 1 rfl) ?_
          refine lv_iconst (v := 1) hx hb d_E_create_22 (by decide) ?_
          obtain ⟨c4, hF⟩ := qs_in_some hF
          refine va_zast hx hb hK hP hD hS 7 0 rfl rfl c4 d_E_create_23 (fun H locs hP hD hS => ?_)
          obtain ⟨u5, hu5, hF⟩ := qs_st_some hF
          have hP : va_P (dC, dI) vwCl (qs_W h c u5) H := by rw [hu5]; exact hP
          have hD : va_D A (qs_W h c u5) := by rw [hu5]; exact hD
          clear hu5
          refine lv_iload_n hx hb d_E_create_24 rfl (lv_at hl 1 rfl) ?_
          obtain ⟨h8, h9⟩ := qs_ret hF
          exact W.iret (v := x1) hx hb hr (fun t ht hW => ⟨⟨x1, u5, rfl, ⟨h8, h9⟩, by rw [ht]; exact hP, va_K.moved hW.alike hK, hD⟩, hS.F ht⟩) hS.2.2 d_E_create_25
  have hl := lv_entry ([.ref (h 1)] : List Value) (n := 2) (Nat.le_of_ble_eq_true rfl)
  rw [lg_entry_eq]
  generalize (lg_sl ([.ref (h 1)] : List Value) ++ List.replicate (2 - (lg_sl ([.ref (h 1)] : List Value)).length) Slot.unset).toArray = ls at hl ⊢
  have hl : lv_has ls 2 [(0, .ref (h 1))] := hl
  unfold f_E_create at hF
  obtain ⟨H, hHe⟩ : ∃ H, H = s.heap := ⟨_, rfl⟩
  obtain ⟨locs, hLe⟩ : ∃ L : List Loc, L = [] := ⟨_, rfl⟩
  rw [← hHe] at hP ⊢
  rw [← hLe]
  have hS : va_S A s.heap H locs := by rw [hHe, hLe]; exact hS
  refine lv_iconst (v := 0) hx hb d_E_create_0 (by decide) ?_
  refine lv_istore_n (lv' := [(1, .int (0)), (0, .ref (h 1))]) hx hb d_E_create_1 rfl hl (by decide) rfl (fun ls hl => ?_)
  exact kb_2 200 g (0) H locs ls hP hD hS (lv_sub hl [1, 0] rfl) hF

theorem d_E_field_0 : decode b_E_field 0 = .ok (.iload_n 1, 1) := by decide +kernel
theorem d_E_field_1 : decode b_E_field 1 = .ok (.ifCond .lt 9, 3) := by decide +kernel
theorem d_E_field_4 : decode b_E_field 4 = .ok (.iload_n 1, 1) := by decide +kernel
theorem d_E_field_5 : decode b_E_field 5 = .ok (.bipush 12, 2) := by decide +kernel
theorem d_E_field_7 : decode b_E_field 7 = .ok (.if_icmp .lt 5, 3) := by decide +kernel
theorem d_E_field_10 : decode b_E_field 10 = .ok (.iconst 0, 1) := by decide +kernel
theorem d_E_field_11 : decode b_E_field 11 = .ok (.ireturn, 1) := by decide +kernel
theorem d_E_field_12 : decode b_E_field 12 = .ok (.aload_n 0, 1) := by decide +kernel
theorem d_E_field_13 : decode b_E_field 13 = .ok (.getfield 15, 3) := by decide +kernel
theorem d_E_field_16 : decode b_E_field 16 = .ok (.iload_n 1, 1) := by decide +kernel
theorem d_E_field_17 : decode b_E_field 17 = .ok (.bipush 16, 2) := by decide +kernel
theorem d_E_field_19 : decode b_E_field 19 = .ok (.imul, 1) := by decide +kernel
theorem d_E_field_20 : decode b_E_field 20 = .ok (.iload_n 2, 1) := by decide +kernel
theorem d_E_field_21 : decode b_E_field 21 = .ok (.iadd, 1) := by decide +kernel
theorem d_E_field_22 : decode b_E_field 22 = .ok (.iaload, 1) := by decide +kernel
theorem d_E_field_23 : decode b_E_field 23 = .ok (.ireturn, 1) := by decide +kernel
def f_E_field (g : Sg) (a1 : Int32) (a2 : Int32) : Option (Int32 × Sg) := (if a1 < 0 then (some (0, g)) else (if a1 < 12 then (qs_in ((a1 * 16) + a2) 192 (some (g 8 ((a1 * 16) + a2).toNatClampNeg, g))) else (some (0, g))))
set_option maxHeartbeats 4000000 in
set_option maxRecDepth 100000 in
theorem c_E_field (l : Launch) (dC : Nat → ClassId) (dI : Nat → Nat → Nat) (h : Nat → Nat) (c : Nat → ClassId) (sz : Nat) (g : Sg) (a1 : Int32) (a2 : Int32) (r0 : Int32) (u0 : Sg) (hF : f_E_field g a1 a2 = some (r0, u0)) : Met l y_E_field (qs_ws y_E_field b_E_field 3 (some .int)) ({ frames := 0, cells := 0, slots := 0, locals := 0 } : Room) (va_Pc ([.ref (h 1), .int a1, .int a2] : List Value) (fun U => U.heap.size = sz ∧ va_P (dC, dI) vwCl (qs_W h c g) U.heap ∧ va_K (dC, dI) vwCl (qs_T c) U ∧ va_D (fun _ => True) (qs_W h c g) ∧ qs_N U)) (va_Qi (fun (r : Int32) (u : Sg) => r = r0 ∧ u = u0) (qs_at dC dI h c (va_A (qs_W h c g) sz)) (va_A (qs_W h c g) sz)) 0 0 (va_A (qs_W h c g) sz) := by
  refine Met.ofW (cc := b_E_field) (maxL := 3) (ret := (some .int)) (by decide +kernel) rfl ?_
  intro p e s m args below meth cd s₁ B hml hv
  obtain ⟨rfl, hsz, hP, hK, hD0, hNs⟩ := hv
  have hx := B.exec
  have hb := B.bytes
  have hr := B.returns
  have hts := atoms_spec (ws := (qs_ws y_E_field b_E_field 3 (some .int))) B.pre
  have hg : ∀ w ∈ qs_gt, w.before _ s = true := fun w h => hts w (List.mem_cons_of_mem _ h)
  have hown : s.vm.findClass R_E = some m.cls := findClass_of_methodNamed B.named
  have hlocks := B.notSynchronized
  subst hsz
  have hD := hD0.self (sz := s.heap.size)
  generalize hAe : va_A (qs_W h c g) s.heap.size = A at hD ⊢
  have hA : ∀ q : Nat, s.heap.size ≤ q → A q := fun q h => by rw [← hAe]; exact Or.inr h
  have hS : va_S A s.heap s.heap [] := va_S.rf
  have hl := lv_entry ([.ref (h 1), .int a1, .int a2] : List Value) (n := 3) (Nat.le_of_ble_eq_true rfl)
  rw [lg_entry_eq]
  generalize (lg_sl ([.ref (h 1), .int a1, .int a2] : List Value) ++ List.replicate (3 - (lg_sl ([.ref (h 1), .int a1, .int a2] : List Value)).length) Slot.unset).toArray = ls at hl ⊢
  have hl : lv_has ls 3 [(0, .ref (h 1)), (1, .int (a1)), (2, .int (a2))] := hl
  unfold f_E_field at hF
  obtain ⟨H, hHe⟩ : ∃ H, H = s.heap := ⟨_, rfl⟩
  obtain ⟨locs, hLe⟩ : ∃ L : List Loc, L = [] := ⟨_, rfl⟩
  rw [← hHe] at hP ⊢
  rw [← hLe]
  have hS : va_S A s.heap H locs := by rw [hHe, hLe]; exact hS
  refine lv_iload_n hx hb d_E_field_0 rfl (lv_at hl 1 rfl) ?_
  refine lv_if_lt (tgt := 10) hx hb d_E_field_1 (by decide) (fun c1 => ?_) (fun c1 => ?_)
  · have hF := qs_pos c1 hF
    refine lv_iconst (v := 0) hx hb d_E_field_10 (by decide) ?_
    obtain ⟨h8, h9⟩ := qs_ret hF
    exact W.iret (v := 0) hx hb hr (fun t ht hW => ⟨⟨0, g, rfl, ⟨h8, h9⟩, by rw [ht]; exact hP, va_K.moved hW.alike hK, hD⟩, hS.F ht⟩) hS.2.2 d_E_field_11
  · have hF := qs_neg c1 hF
    refine lv_iload_n hx hb d_E_field_4 rfl (lv_at hl 1 rfl) ?_
    refine lv_bipush (v := 12) hx hb d_E_field_5 (by decide) ?_
    refine lv_icmp_lt (tgt := 12) hx hb d_E_field_7 (by decide) (fun c2 => ?_) (fun c2 => ?_)
    · have hF := qs_pos c2 hF
      refine lv_aload_n hx hb d_E_field_12 rfl (lv_at hl 0 rfl) ?_
      refine va_get (D := (dC, dI)) (ci := 0) (v := .ref (h 8)) (C := R_E) (T := T_E) (N := 2) hx hb hg in_E hown hK hP 1 rfl rfl 1 (by decide) (hg _ t_31) (fun _ h9 => h9) rfl d_E_field_13 ?_
      refine lv_iload_n hx hb d_E_field_16 rfl (lv_at hl 1 rfl) ?_
      refine lv_bipush (v := 16) hx hb d_E_field_17 (by decide) ?_
      refine lv_imul hx hb d_E_field_19 ?_
      refine lv_iload_n hx hb d_E_field_20 rfl (lv_at hl 2 rfl) ?_
      refine lv_iadd hx hb d_E_field_21 ?_
      obtain ⟨c3, hF⟩ := qs_in_some hF
      refine va_iald hx hb hK hP 8 1 rfl rfl c3 d_E_field_22 ?_
      obtain ⟨h8, h9⟩ := qs_ret hF
      exact W.iret (v := g 8 ((a1 * 16) + a2).toNatClampNeg) hx hb hr (fun t ht hW => ⟨⟨(g 8 ((a1 * 16) + a2).toNatClampNeg), g, rfl, ⟨h8, h9⟩, by rw [ht]; exact hP, va_K.moved hW.alike hK, hD⟩, hS.F ht⟩) hS.2.2 d_E_field_23
    · have hF := qs_neg c2 hF
      refine lv_iconst (v := 0) hx hb d_E_field_10 (by decide) ?_
      obtain ⟨h8, h9⟩ := qs_ret hF
      exact W.iret (v := 0) hx hb hr (fun t ht hW => ⟨⟨0, g, rfl, ⟨h8, h9⟩, by rw [ht]; exact hP, va_K.moved hW.alike hK, hD⟩, hS.F ht⟩) hS.2.2 d_E_field_11
end
section
theorem d_E_erase_0 : decode b_E_erase 0 = .ok (.aload_n 0, 1) := by decide +kernel
theorem d_E_erase_1 : decode b_E_erase 1 = .ok (.iload_n 1, 1) := by decide +kernel
theorem d_E_erase_2 : decode b_E_erase 2 = .ok (.invokevirtual 19, 3) := by decide +kernel
theorem d_E_erase_5 : decode b_E_erase 5 = .ok (.ifCond .ne 4, 3) := by decide +kernel
theorem d_E_erase_8 : decode b_E_erase 8 = .ok (.return_, 1) := by decide +kernel
theorem d_E_erase_9 : decode b_E_erase 9 = .ok (.aload_n 0, 1) := by decide +kernel
theorem d_E_erase_10 : decode b_E_erase 10 = .ok (.getfield 9, 3) := by decide +kernel
theorem d_E_erase_13 : decode b_E_erase 13 = .ok (.iload_n 1, 1) := by decide +kernel
theorem d_E_erase_14 : decode b_E_erase 14 = .ok (.iconst 0, 1) := by decide +kernel
theorem d_E_erase_15 : decode b_E_erase 15 = .ok (.bastore, 1) := by decide +kernel
theorem d_E_erase_16 : decode b_E_erase 16 = .ok (.iconst 0, 1) := by decide +kernel
theorem d_E_erase_17 : decode b_E_erase 17 = .ok (.istore_n 2, 1) := by decide +kernel
theorem d_E_erase_18 : decode b_E_erase 18 = .ok (.iload_n 2, 1) := by decide +kernel
theorem d_E_erase_19 : decode b_E_erase 19 = .ok (.bipush 16, 2) := by decide +kernel
theorem d_E_erase_21 : decode b_E_erase 21 = .ok (.if_icmp .ge 21, 3) := by decide +kernel
theorem d_E_erase_24 : decode b_E_erase 24 = .ok (.aload_n 0, 1) := by decide +kernel
theorem d_E_erase_25 : decode b_E_erase 25 = .ok (.getfield 15, 3) := by decide +kernel
theorem d_E_erase_28 : decode b_E_erase 28 = .ok (.iload_n 1, 1) := by decide +kernel
theorem d_E_erase_29 : decode b_E_erase 29 = .ok (.bipush 16, 2) := by decide +kernel
theorem d_E_erase_31 : decode b_E_erase 31 = .ok (.imul, 1) := by decide +kernel
theorem d_E_erase_32 : decode b_E_erase 32 = .ok (.iload_n 2, 1) := by decide +kernel
theorem d_E_erase_33 : decode b_E_erase 33 = .ok (.iadd, 1) := by decide +kernel
theorem d_E_erase_34 : decode b_E_erase 34 = .ok (.iconst 0, 1) := by decide +kernel
theorem d_E_erase_35 : decode b_E_erase 35 = .ok (.iastore, 1) := by decide +kernel
theorem d_E_erase_36 : decode b_E_erase 36 = .ok (.iinc 2 1, 3) := by decide +kernel
theorem d_E_erase_39 : decode b_E_erase 39 = .ok (.goto (-21), 3) := by decide +kernel
theorem d_E_erase_42 : decode b_E_erase 42 = .ok (.return_, 1) := by decide +kernel
def f_E_erase_18  : Nat → Sg → Int32 → Int32 → Option (Unit × Sg)
  | 0, _, _, _ => none
  | n + 1, g, x1, x2 => (if 16 ≤ x2 then (some ((), g)) else (qs_in ((x1 * 16) + x2) 192 (qs_st (qs_a g 8 ((x1 * 16) + x2).toNatClampNeg (0)) fun u8 => (f_E_erase_18 n u8 (x1) (x2 + 1)))))
def f_E_erase (g : Sg) (a1 : Int32) : Option (Unit × Sg) := (qs_bn (f_E_isThere g (a1)) fun r1 u2 => (if r1 = 0 then (some ((), u2)) else (qs_in (a1) 12 (qs_st (qs_a u2 7 a1.toNatClampNeg (vp_nar .boolean (0 : Int32))) fun u5 => (f_E_erase_18 200 u5 (a1) (0))))))
set_option maxHeartbeats 4000000 in
set_option maxRecDepth 100000 in
theorem c_E_erase (l : Launch) (dC : Nat → ClassId) (dI : Nat → Nat → Nat) (h : Nat → Nat) (c : Nat → ClassId) (sz : Nat) (g : Sg) (a1 : Int32) (u0 : Sg) (hF : f_E_erase g a1 = some ((), u0)) : Met l y_E_erase (qs_ws y_E_erase b_E_erase 3 none) ({ frames := 1, cells := 0, slots := 0, locals := 21 } : Room) (va_Pc ([.ref (h 1), .int a1] : List Value) (fun U => U.heap.size = sz ∧ va_P (dC, dI) vwCl (qs_W h c g) U.heap ∧ va_K (dC, dI) vwCl (qs_T c) U ∧ va_D (fun _ => True) (qs_W h c g) ∧ qs_N U)) (va_Qv (fun (u : Sg) => u = u0) (qs_at dC dI h c (va_A (qs_W h c g) sz)) (va_A (qs_W h c g) sz)) 0 0 (va_A (qs_W h c g) sz) := by
  refine Met.ofW (cc := b_E_erase) (maxL := 3) (ret := none) (by decide +kernel) rfl ?_
  intro p e s m args below meth cd s₁ B hml hv
  obtain ⟨rfl, hsz, hP, hK, hD0, hNs⟩ := hv
  have hx := B.exec
  have hb := B.bytes
  have hr := B.returns
  have hts := atoms_spec (ws := (qs_ws y_E_erase b_E_erase 3 none)) B.pre
  have hg : ∀ w ∈ qs_gt, w.before _ s = true := fun w h => hts w (List.mem_cons_of_mem _ h)
  have hown : s.vm.findClass R_E = some m.cls := findClass_of_methodNamed B.named
  have hlocks := B.notSynchronized
  subst hsz
  have hD := hD0.self (sz := s.heap.size)
  generalize hAe : va_A (qs_W h c g) s.heap.size = A at hD ⊢
  have hA : ∀ q : Nat, s.heap.size ≤ q → A q := fun q h => by rw [← hAe]; exact Or.inr h
  have hS : va_S A s.heap s.heap [] := va_S.rf
  have kb_18 : ∀ n : Nat, ∀ (g : Sg) (x1 : Int32) (x2 : Int32) (H : Heap) (locs : List Loc) (ls : Array Slot), va_P (dC, dI) vwCl (qs_W h c g) H → va_D A (qs_W h c g) → va_S A s.heap H locs → lv_has ls 3 [(0, .ref (h 1)), (1, .int (x1)), (2, .int (x2))] → f_E_erase_18 n g x1 x2 = some ((), u0) → W p l e (headSpec (qs_ws y_E_erase b_E_erase 3 none) ({ frames := 1, cells := 0, slots := 0, locals := 21 } : Room)).room s m ([.ref (h 1), .int a1] : List Value).toArray below meth cd H locs 0 0 (MQ below (va_Qv (fun (u : Sg) => u = u0) (qs_at dC dI h c A) A) ([.ref (h 1), .int a1] : List Value).toArray s 0 0 A) (F0 m 18 ls []) := by
    intro n
    induction n with
    | zero =>
      intro g x1 x2 H locs ls hP hD hS hl hF
      exact nomatch (show (none : Option (Unit × Sg)) = some _ from hF)
    | succ n ih =>
      intro g x1 x2 H locs ls hP hD hS hl hF
      rw [f_E_erase_18] at hF
      refine lv_iload_n hx hb d_E_erase_18 rfl (lv_at hl 2 rfl) ?_
      refine lv_bipush (v := 16) hx hb d_E_erase_19 (by decide) ?_
      refine lv_icmp_ge (tgt := 42) hx hb d_E_erase_21 (by decide) (fun c6 => ?_) (fun c6 => ?_)
      · have hF := qs_pos c6 hF
        obtain ⟨h8, h9⟩ := qs_ret hF
        exact W.vret hx hb hr (fun t ht hW => ⟨⟨g, rfl, h9, by rw [ht]; exact hP, va_K.moved hW.alike hK, hD⟩, hS.F ht⟩) hS.2.2 d_E_erase_42
      · have hF := qs_neg c6 hF
        refine lv_aload_n hx hb d_E_erase_24 rfl (lv_at hl 0 rfl) ?_
        refine va_get (D := (dC, dI)) (ci := 0) (v := .ref (h 8)) (C := R_E) (T := T_E) (N := 2) hx hb hg in_E hown hK hP 1 rfl rfl 1 (by decide) (hg _ t_31) (fun _ h9 => h9) rfl d_E_erase_25 ?_
        refine lv_iload_n hx hb d_E_erase_28 rfl (lv_at hl 1 rfl) ?_
        refine lv_bipush (v := 16) hx hb d_E_erase_29 (by decide) ?_
        refine lv_imul hx hb d_E_erase_31 ?_
        refine lv_iload_n hx hb d_E_erase_32 rfl (lv_at hl 2 rfl) ?_
        refine lv_iadd hx hb d_E_erase_33 ?_
        refine lv_iconst (v := 0) hx hb d_E_erase_34 (by decide) ?_
        obtain ⟨c7, hF⟩ := qs_in_some hF
        refine va_iast hx hb hK hP hD hS 8 1 rfl rfl c7 d_E_erase_35 (fun H locs hP hD hS => ?_)
        obtain ⟨u8, hu8, hF⟩ := qs_st_some hF
        have hP : va_P (dC, dI) vwCl (qs_W h c u8) H := by rw [hu8]; exact hP
        have hD : va_D A (qs_W h c u8) := by rw [hu8]; exact hD
        clear hu8
        refine lv_iinc (v := x2 + 1) (lv' := [(2, .int (x2 + 1)), (0, .ref (h 1)), (1, .int (x1))]) hx hb d_E_erase_36 hl (k := 2) rfl (by rfl) (by decide) rfl (fun ls hl => ?_)
        refine lv_goto (tgt := 18) hx hb d_E_erase_39 (by decide) ?_
        exact ih u8 (x1) (x2 + 1) H locs ls hP hD hS (lv_sub hl [1, 2, 0] rfl) hF
  have hl := lv_entry ([.ref (h 1), .int a1] : List Value) (n := 3) (Nat.le_of_ble_eq_true rfl)
  rw [lg_entry_eq]
  generalize (lg_sl ([.ref (h 1), .int a1] : List Value) ++ List.replicate (3 - (lg_sl ([.ref (h 1), .int a1] : List Value)).length) Slot.unset).toArray = ls at hl ⊢
  have hl : lv_has ls 3 [(0, .ref (h 1)), (1, .int (a1))] := hl
  unfold f_E_erase at hF
  obtain ⟨H, hHe⟩ : ∃ H, H = s.heap := ⟨_, rfl⟩
  obtain ⟨locs, hLe⟩ : ∃ L : List Loc, L = [] := ⟨_, rfl⟩
  rw [← hHe] at hP ⊢
  rw [← hLe]
  have hS : va_S A s.heap H locs := by rw [hHe, hLe]; exact hS
  refine lv_aload_n hx hb d_E_erase_0 rfl (lv_at hl 0 rfl) ?_
  refine lv_iload_n hx hb d_E_erase_1 rfl (lv_at hl 1 rfl) ?_
  obtain ⟨r1, u2, hX, hF⟩ := qs_bn_some hF
  refine qs_ci (Wd := qs_W h c) (isC := [0, 1, 2, 3, 4, 5, 6, 7, 8, 9, 10, 11, 12, 13, 14, 15, 16]) (va_runV (own := "QuakeServer$Entities") (C := "QuakeServer$Entities") (As := [.int (a1)]) (rest := []) ⟨hx, hb, hml, hown, hg⟩ (c_E_isThere l dC dI h c H.size g (a1) r1 u2 hX) (cwV 1 hg (qs_gV t_358 t_188 t_189 t_2 t_190) rfl rfl rfl (by decide +kernel) ⟨Nat.le_of_ble_eq_true rfl, Nat.le_of_ble_eq_true rfl⟩) ⟨qs_blind, va_recv hK hP (ci := 0) (q0 := 1) rfl rfl, fun U hU hW => ⟨rfl, by rw [hU], by rw [hU]; exact hP, va_K.moved hW.alike hK, hD.weaken (fun _ _ _ _ => trivial), hNs.warm hW⟩⟩ rfl rfl hl.1 rfl (lv_room (Nat.le_of_ble_eq_true rfl)) d_E_erase_2 ⟨Nat.le_of_ble_eq_true rfl, Nat.le_of_ble_eq_true rfl⟩) rfl hP hD hS hA (fun H locs hP hD hS => ?_)
  refine lv_if_ne (tgt := 9) hx hb d_E_erase_5 (by decide) (fun c3 => ?_) (fun c3 => ?_)
  · have hF := qs_neg c3 hF
    refine lv_aload_n hx hb d_E_erase_9 rfl (lv_at hl 0 rfl) ?_
    refine va_get (D := (dC, dI)) (ci := 0) (v := .ref (h 7)) (C := R_E) (T := T_E) (N := 2) hx hb hg in_E hown hK hP 1 rfl rfl 0 (by decide) (hg _ t_30) (fun _ h9 => h9) rfl d_E_erase_10 ?_
    refine lv_iload_n hx hb d_E_erase_13 rfl (lv_at hl 1 rfl) ?_
    refine lv_iconst (v := 0) hx hb d_E_erase_14 (by decide) ?_
    obtain ⟨c4, hF⟩ := qs_in_some hF
    refine va_zast hx hb hK hP hD hS 7 0 rfl rfl c4 d_E_erase_15 (fun H locs hP hD hS => ?_)
    obtain ⟨u5, hu5, hF⟩ := qs_st_some hF
    have hP : va_P (dC, dI) vwCl (qs_W h c u5) H := by rw [hu5]; exact hP
    have hD : va_D A (qs_W h c u5) := by rw [hu5]; exact hD
    clear hu5
    refine lv_iconst (v := 0) hx hb d_E_erase_16 (by decide) ?_
    refine lv_istore_n (lv' := [(2, .int (0)), (0, .ref (h 1)), (1, .int (a1))]) hx hb d_E_erase_17 rfl hl (by decide) rfl (fun ls hl => ?_)
    exact kb_18 200 u5 (a1) (0) H locs ls hP hD hS (lv_sub hl [1, 2, 0] rfl) hF
  · have hF := qs_pos c3 hF
    obtain ⟨h8, h9⟩ := qs_ret hF
    exact W.vret hx hb hr (fun t ht hW => ⟨⟨u2, rfl, h9, by rw [ht]; exact hP, va_K.moved hW.alike hK, hD⟩, hS.F ht⟩) hS.2.2 d_E_erase_8

theorem d_E_firstBehind_0 : decode b_E_firstBehind 0 = .ok (.iconst 0, 1) := by decide +kernel
theorem d_E_firstBehind_1 : decode b_E_firstBehind 1 = .ok (.istore_n 2, 1) := by decide +kernel
theorem d_E_firstBehind_2 : decode b_E_firstBehind 2 = .ok (.iload_n 2, 1) := by decide +kernel
theorem d_E_firstBehind_3 : decode b_E_firstBehind 3 = .ok (.bipush 12, 2) := by decide +kernel
theorem d_E_firstBehind_5 : decode b_E_firstBehind 5 = .ok (.if_icmp .ge 25, 3) := by decide +kernel
theorem d_E_firstBehind_8 : decode b_E_firstBehind 8 = .ok (.iload_n 2, 1) := by decide +kernel
theorem d_E_firstBehind_9 : decode b_E_firstBehind 9 = .ok (.iload_n 1, 1) := by decide +kernel
theorem d_E_firstBehind_10 : decode b_E_firstBehind 10 = .ok (.if_icmp .le 14, 3) := by decide +kernel
theorem d_E_firstBehind_13 : decode b_E_firstBehind 13 = .ok (.aload_n 0, 1) := by decide +kernel
theorem d_E_firstBehind_14 : decode b_E_firstBehind 14 = .ok (.getfield 9, 3) := by decide +kernel
theorem d_E_firstBehind_17 : decode b_E_firstBehind 17 = .ok (.iload_n 2, 1) := by decide +kernel
theorem d_E_firstBehind_18 : decode b_E_firstBehind 18 = .ok (.baload, 1) := by decide +kernel
theorem d_E_firstBehind_19 : decode b_E_firstBehind 19 = .ok (.ifCond .eq 5, 3) := by decide +kernel
theorem d_E_firstBehind_22 : decode b_E_firstBehind 22 = .ok (.iload_n 2, 1) := by decide +kernel
theorem d_E_firstBehind_23 : decode b_E_firstBehind 23 = .ok (.ireturn, 1) := by decide +kernel
theorem d_E_firstBehind_24 : decode b_E_firstBehind 24 = .ok (.iinc 2 1, 3) := by decide +kernel
theorem d_E_firstBehind_27 : decode b_E_firstBehind 27 = .ok (.goto (-25), 3) := by decide +kernel
theorem d_E_firstBehind_30 : decode b_E_firstBehind 30 = .ok (.iconst (-1), 1) := by decide +kernel
theorem d_E_firstBehind_31 : decode b_E_firstBehind 31 = .ok (.ireturn, 1) := by decide +kernel
def f_E_firstBehind_24 (k2 : Sg → Int32 → Int32 → Option (Int32 × Sg)) (g : Sg) (x1 : Int32) (x2 : Int32) : Option (Int32 × Sg) := (k2 g (x1) (x2 + 1))
def f_E_firstBehind_2  : Nat → Sg → Int32 → Int32 → Option (Int32 × Sg)
  | 0, _, _, _ => none
  | n + 1, g, x1, x2 => (if 12 ≤ x2 then (some ((-1), g)) else (if x2 ≤ x1 then (f_E_firstBehind_24 (fun g x1 x2 => f_E_firstBehind_2  n g x1 x2) g (x1) (x2)) else (qs_in (x2) 12 (if (g 7 x2.toNatClampNeg) = 0 then (f_E_firstBehind_24 (fun g x1 x2 => f_E_firstBehind_2  n g x1 x2) g (x1) (x2)) else (some (x2, g))))))
def f_E_firstBehind (g : Sg) (a1 : Int32) : Option (Int32 × Sg) := (f_E_firstBehind_2 200 g (a1) (0))
set_option maxHeartbeats 4000000 in
set_option maxRecDepth 100000 in
theorem c_E_firstBehind (l : Launch) (dC : Nat → ClassId) (dI : Nat → Nat → Nat) (h : Nat → Nat) (c : Nat → ClassId) (sz : Nat) (g : Sg) (a1 : Int32) (r0 : Int32) (u0 : Sg) (hF : f_E_firstBehind g a1 = some (r0, u0)) : Met l y_E_firstBehind (qs_ws y_E_firstBehind b_E_firstBehind 3 (some .int)) ({ frames := 0, cells := 0, slots := 0, locals := 0 } : Room) (va_Pc ([.ref (h 1), .int a1] : List Value) (fun U => U.heap.size = sz ∧ va_P (dC, dI) vwCl (qs_W h c g) U.heap ∧ va_K (dC, dI) vwCl (qs_T c) U ∧ va_D (fun _ => True) (qs_W h c g) ∧ qs_N U)) (va_Qi (fun (r : Int32) (u : Sg) => r = r0 ∧ u = u0) (qs_at dC dI h c (va_A (qs_W h c g) sz)) (va_A (qs_W h c g) sz)) 0 0 (va_A (qs_W h c g) sz) := by
  refine Met.ofW (cc := b_E_firstBehind) (maxL := 3) (ret := (some .int)) (by decide +kernel) rfl ?_
  intro p e s m args below meth cd s₁ B hml hv
  obtain ⟨rfl, hsz, hP, hK, hD0, hNs⟩ := hv
  have hx := B.exec
  have hb := B.bytes
  have hr := B.returns
  have hts := atoms_spec (ws := (qs_ws y_E_firstBehind b_E_firstBehind 3 (some .int))) B.pre
  have hg : ∀ w ∈ qs_gt, w.before _ s = true := fun w h => hts w (List.mem_cons_of_mem _ h)
  have hown : s.vm.findClass R_E = some m.cls := findClass_of_methodNamed B.named
  have hlocks := B.notSynchronized
  subst hsz
  have hD := hD0.self (sz := s.heap.size)
  generalize hAe : va_A (qs_W h c g) s.heap.size = A at hD ⊢
  have hA : ∀ q : Nat, s.heap.size ≤ q → A q := fun q h => by rw [← hAe]; exact Or.inr h
  have hS : va_S A s.heap s.heap [] := va_S.rf
  have kb_24 : ∀ (k2 : Sg → Int32 → Int32 → Option (Int32 × Sg)), (∀ (g : Sg) (x1 : Int32) (x2 : Int32) (H : Heap) (locs : List Loc) (ls : Array Slot), va_P (dC, dI) vwCl (qs_W h c g) H → va_D A (qs_W h c g) → va_S A s.heap H locs → lv_has ls 3 [(0, .ref (h 1)), (1, .int (x1)), (2, .int (x2))] → k2 g x1 x2 = some (r0, u0) → W p l e (headSpec (qs_ws y_E_firstBehind b_E_firstBehind 3 (some .int)) ({ frames := 0, cells := 0, slots := 0, locals := 0 } : Room)).room s m ([.ref (h 1), .int a1] : List Value).toArray below meth cd H locs 0 0 (MQ below (va_Qi (fun (r : Int32) (u : Sg) => r = r0 ∧ u = u0) (qs_at dC dI h c A) A) ([.ref (h 1), .int a1] : List Value).toArray s 0 0 A) (F0 m 2 ls [])) → ∀ (g : Sg) (x1 : Int32) (x2 : Int32) (H : Heap) (locs : List Loc) (ls : Array Slot), va_P (dC, dI) vwCl (qs_W h c g) H → va_D A (qs_W h c g) → va_S A s.heap H locs → lv_has ls 3 [(0, .ref (h 1)), (1, .int (x1)), (2, .int (x2))] → f_E_firstBehind_24 k2  g x1 x2 = some (r0, u0) → W p l e (headSpec (qs_ws y_E_firstBehind b_E_firstBehind 3 (some .int)) ({ frames := 0, cells := 0, slots := 0, locals := 0 } : Room)).room s m ([.ref (h 1), .int a1] : List Value).toArray below meth cd H locs 0 0 (MQ below (va_Qi (fun (r : Int32) (u : Sg) => r = r0 ∧ u = u0) (qs_at dC dI h c A) A) ([.ref (h 1), .int a1] : List Value).toArray s 0 0 A) (F0 m 24 ls []) := by
    intro k2 hk2
    intro g x1 x2 H locs ls hP hD hS hl hF
    unfold f_E_firstBehind_24 at hF
    refine lv_iinc (v := x2 + 1) (lv' := [(2, .int (x2 + 1)), (0, .ref (h 1)), (1, .int (x1))]) hx hb d_E_firstBehind_24 hl (k := 2) rfl (by rfl) (by decide) rfl (fun ls hl => ?_)
    refine lv_goto (tgt := 2) hx hb d_E_firstBehind_27 (by decide) ?_
    exact hk2 g (x1) (x2 + 1) H locs ls hP hD hS (lv_sub hl [1, 2, 0] rfl) hF
  have kb_2 : ∀ n : Nat, ∀ (g : Sg) (x1 : Int32) (x2 : Int32) (H : Heap) (locs : List Loc) (ls : Array Slot), va_P (dC, dI) vwCl (qs_W h c g) H → va_D A (qs_W h c g) → va_S A s.heap H locs → lv_has ls 3 [(0, .ref (h 1)), (1, .int (x1)), (2, .int (x2))] → f_E_firstBehind_2 n g x1 x2 = some (r0, u0) → W p l e (headSpec (qs_ws y_E_firstBehind b_E_firstBehind 3 (some .int)) ({ frames := 0, cells := 0, slots := 0, locals := 0 } : Room)).room s m ([.ref (h 1), .int a1] : List Value).toArray below meth cd H locs 0 0 (MQ below (va_Qi (fun (r : Int32) (u : Sg) => r = r0 ∧ u = u0) (qs_at dC dI h c A) A) ([.ref (h 1), .int a1] : List Value).toArray s 0 0 A) (F0 m 2 ls []) := by
    intro n
    induction n with
    | zero =>
      intro g x1 x2 H locs ls hP hD hS hl hF
      exact nomatch (show (none : Option (Int32 × Sg)) = some _ from hF)
    | succ n ih =>
      intro g x1 x2 H locs ls hP hD hS hl hF
      rw [f_E_firstBehind_2] at hF
      refine lv_iload_n hx hb d_E_firstBehind_2 rfl (lv_at hl 2 rfl) ?_
      refine lv_bipush (v := 12) hx hb d_E_firstBehind_3 (by decide) ?_
      refine lv_icmp_ge (tgt := 30) hx hb d_E_firstBehind_5 (by decide) (fun c1 => ?_) (fun c1 => ?_)
      · have hF := qs_pos c1 hF
        refine lv_iconst (v := (-1)) hx hb d_E_firstBehind_30 (by decide) ?_
        obtain ⟨h8, h9⟩ := qs_ret hF
        exact W.iret (v := (-1)) hx hb hr (fun t ht hW => ⟨⟨(-1), g, rfl, ⟨h8, h9⟩, by rw [ht]; exact hP, va_K.moved hW.alike hK, hD⟩, hS.F ht⟩) hS.2.2 d_E_firstBehind_31
      · have hF := qs_neg c1 hF
        refine lv_iload_n hx hb d_E_firstBehind_8 rfl (lv_at hl 2 rfl) ?_
        refine lv_iload_n hx hb d_E_firstBehind_9 rfl (lv_at hl 1 rfl) ?_
        refine lv_icmp_le (tgt := 24) hx hb d_E_firstBehind_10 (by decide) (fun c2 => ?_) (fun c2 => ?_)
        · have hF := qs_pos c2 hF
          exact kb_24 _ ih g (x1) (x2) H locs ls hP hD hS (lv_sub hl [0, 1, 2] rfl) hF
        · have hF := qs_neg c2 hF
          refine lv_aload_n hx hb d_E_firstBehind_13 rfl (lv_at hl 0 rfl) ?_
          refine va_get (D := (dC, dI)) (ci := 0) (v := .ref (h 7)) (C := R_E) (T := T_E) (N := 2) hx hb hg in_E hown hK hP 1 rfl rfl 0 (by decide) (hg _ t_30) (fun _ h9 => h9) rfl d_E_firstBehind_14 ?_
          refine lv_iload_n hx hb d_E_firstBehind_17 rfl (lv_at hl 2 rfl) ?_
          obtain ⟨c3, hF⟩ := qs_in_some hF
          refine va_zald hx hb hK hP 7 0 rfl rfl c3 d_E_firstBehind_18 ?_
          refine lv_if_eq (tgt := 24) hx hb d_E_firstBehind_19 (by decide) (fun c4 => ?_) (fun c4 => ?_)
          · have hF := qs_pos c4 hF
            exact kb_24 _ ih g (x1) (x2) H locs ls hP hD hS (lv_sub hl [0, 1, 2] rfl) hF
          · have hF := qs_neg c4 hF
            refine lv_iload_n hx hb d_E_firstBehind_22 rfl (lv_at hl 2 rfl) ?_
            obtain ⟨h8, h9⟩ := qs_ret hF
            exact W.iret (v := x2) hx hb hr (fun t ht hW => ⟨⟨x2, g, rfl, ⟨h8, h9⟩, by rw [ht]; exact hP, va_K.moved hW.alike hK, hD⟩, hS.F ht⟩) hS.2.2 d_E_firstBehind_23
  have hl := lv_entry ([.ref (h 1), .int a1] : List Value) (n := 3) (Nat.le_of_ble_eq_true rfl)
  rw [lg_entry_eq]
  generalize (lg_sl ([.ref (h 1), .int a1] : List Value) ++ List.replicate (3 - (lg_sl ([.ref (h 1), .int a1] : List Value)).length) Slot.unset).toArray = ls at hl ⊢
  have hl : lv_has ls 3 [(0, .ref (h 1)), (1, .int (a1))] := hl
  unfold f_E_firstBehind at hF
  obtain ⟨H, hHe⟩ : ∃ H, H = s.heap := ⟨_, rfl⟩
  obtain ⟨locs, hLe⟩ : ∃ L : List Loc, L = [] := ⟨_, rfl⟩
  rw [← hHe] at hP ⊢
  rw [← hLe]
  have hS : va_S A s.heap H locs := by rw [hHe, hLe]; exact hS
  refine lv_iconst (v := 0) hx hb d_E_firstBehind_0 (by decide) ?_
  refine lv_istore_n (lv' := [(2, .int (0)), (0, .ref (h 1)), (1, .int (a1))]) hx hb d_E_firstBehind_1 rfl hl (by decide) rfl (fun ls hl => ?_)
  exact kb_2 200 g (a1) (0) H locs ls hP hD hS (lv_sub hl [1, 2, 0] rfl) hF

theorem d_E_wholeField_0 : decode b_E_wholeField 0 = .ok (.aload_n 0, 1) := by decide +kernel
theorem d_E_wholeField_1 : decode b_E_wholeField 1 = .ok (.iload_n 1, 1) := by decide +kernel
theorem d_E_wholeField_2 : decode b_E_wholeField 2 = .ok (.iload_n 2, 1) := by decide +kernel
theorem d_E_wholeField_3 : decode b_E_wholeField 3 = .ok (.invokevirtual 23, 3) := by decide +kernel
theorem d_E_wholeField_6 : decode b_E_wholeField 6 = .ok (.invokestatic 27, 3) := by decide +kernel
theorem d_E_wholeField_9 : decode b_E_wholeField 9 = .ok (.ireturn, 1) := by decide +kernel
def f_E_wholeField (g : Sg) (a1 : Int32) (a2 : Int32) : Option (Int32 × Sg) := (qs_bn (f_E_field g (a1) (a2)) fun r1 u2 => (qs_pb (f_Q_wholeOf (r1)) fun r3 => (some (r3, u2))))
set_option maxHeartbeats 4000000 in
set_option maxRecDepth 100000 in
theorem c_E_wholeField (l : Launch) (dC : Nat → ClassId) (dI : Nat → Nat → Nat) (h : Nat → Nat) (c : Nat → ClassId) (sz : Nat) (g : Sg) (a1 : Int32) (a2 : Int32) (r0 : Int32) (u0 : Sg) (hF : f_E_wholeField g a1 a2 = some (r0, u0)) : Met l y_E_wholeField (qs_ws y_E_wholeField b_E_wholeField 3 (some .int)) ({ frames := 1, cells := 0, slots := 0, locals := 22 } : Room) (va_Pc ([.ref (h 1), .int a1, .int a2] : List Value) (fun U => U.heap.size = sz ∧ va_P (dC, dI) vwCl (qs_W h c g) U.heap ∧ va_K (dC, dI) vwCl (qs_T c) U ∧ va_D (fun _ => True) (qs_W h c g) ∧ qs_N U)) (va_Qi (fun (r : Int32) (u : Sg) => r = r0 ∧ u = u0) (qs_at dC dI h c (va_A (qs_W h c g) sz)) (va_A (qs_W h c g) sz)) 0 0 (va_A (qs_W h c g) sz) := by
  refine Met.ofW (cc := b_E_wholeField) (maxL := 3) (ret := (some .int)) (by decide +kernel) rfl ?_
  intro p e s m args below meth cd s₁ B hml hv
  obtain ⟨rfl, hsz, hP, hK, hD0, hNs⟩ := hv
  have hx := B.exec
  have hb := B.bytes
  have hr := B.returns
  have hts := atoms_spec (ws := (qs_ws y_E_wholeField b_E_wholeField 3 (some .int))) B.pre
  have hg : ∀ w ∈ qs_gt, w.before _ s = true := fun w h => hts w (List.mem_cons_of_mem _ h)
  have hown : s.vm.findClass R_E = some m.cls := findClass_of_methodNamed B.named
  have hlocks := B.notSynchronized
  subst hsz
  have hD := hD0.self (sz := s.heap.size)
  generalize hAe : va_A (qs_W h c g) s.heap.size = A at hD ⊢
  have hA : ∀ q : Nat, s.heap.size ≤ q → A q := fun q h => by rw [← hAe]; exact Or.inr h
  have hS : va_S A s.heap s.heap [] := va_S.rf
  have hl := lv_entry ([.ref (h 1), .int a1, .int a2] : List Value) (n := 3) (Nat.le_of_ble_eq_true rfl)
  rw [lg_entry_eq]
  generalize (lg_sl ([.ref (h 1), .int a1, .int a2] : List Value) ++ List.replicate (3 - (lg_sl ([.ref (h 1), .int a1, .int a2] : List Value)).length) Slot.unset).toArray = ls at hl ⊢
  have hl : lv_has ls 3 [(0, .ref (h 1)), (1, .int (a1)), (2, .int (a2))] := hl
  unfold f_E_wholeField at hF
  obtain ⟨H, hHe⟩ : ∃ H, H = s.heap := ⟨_, rfl⟩
  obtain ⟨locs, hLe⟩ : ∃ L : List Loc, L = [] := ⟨_, rfl⟩
  rw [← hHe] at hP ⊢
  rw [← hLe]
  have hS : va_S A s.heap H locs := by rw [hHe, hLe]; exact hS
  refine lv_aload_n hx hb d_E_wholeField_0 rfl (lv_at hl 0 rfl) ?_
  refine lv_iload_n hx hb d_E_wholeField_1 rfl (lv_at hl 1 rfl) ?_
  refine lv_iload_n hx hb d_E_wholeField_2 rfl (lv_at hl 2 rfl) ?_
  obtain ⟨r1, u2, hX, hF⟩ := qs_bn_some hF
  refine qs_ci (Wd := qs_W h c) (isC := [0, 1, 2, 3, 4, 5, 6, 7, 8, 9, 10, 11, 12, 13, 14, 15, 16]) (va_runV (own := "QuakeServer$Entities") (C := "QuakeServer$Entities") (As := [.int (a1), .int (a2)]) (rest := []) ⟨hx, hb, hml, hown, hg⟩ (c_E_field l dC dI h c H.size g (a1) (a2) r1 u2 hX) (cwV 2 hg (qs_gV t_512 t_192 t_193 t_2 t_194) rfl rfl rfl (by decide +kernel) ⟨Nat.le_of_ble_eq_true rfl, Nat.le_of_ble_eq_true rfl⟩) ⟨qs_blind, va_recv hK hP (ci := 0) (q0 := 1) rfl rfl, fun U hU hW => ⟨rfl, by rw [hU], by rw [hU]; exact hP, va_K.moved hW.alike hK, hD.weaken (fun _ _ _ _ => trivial), hNs.warm hW⟩⟩ rfl rfl hl.1 rfl (lv_room (Nat.le_of_ble_eq_true rfl)) d_E_wholeField_3 ⟨Nat.le_of_ble_eq_true rfl, Nat.le_of_ble_eq_true rfl⟩) rfl hP hD hS hA (fun H locs hP hD hS => ?_)
  obtain ⟨r3, hX, hF⟩ := qs_pb_some hF
  refine qs_psi (va_runSN (own := "QuakeServer$Entities") (As := [.int (r1)]) (rest := []) ⟨hx, hb, hml, hown, hg⟩ (c_Q_wholeOf l H.size (r1) r3 hX) ⟨va_cnB (own := "QuakeServer$Entities") (index := 27) (host := "QuakeServer") 1 hg (qs_gc t_458) rfl rfl rfl (nM_7 hNs) (hg _ t_1) (by decide +kernel) ⟨Nat.le_of_ble_eq_true rfl, Nat.le_of_ble_eq_true rfl⟩, hg _ t_457, trivial⟩ ⟨qs_blind0, fun U hU hW => ⟨rfl, by rw [hU], hNs.warm hW⟩⟩ rfl rfl hl.1 rfl (lv_room (Nat.le_of_ble_eq_true rfl)) d_E_wholeField_6 ⟨Nat.le_of_ble_eq_true rfl, Nat.le_of_ble_eq_true rfl⟩) hP hD hS hA (fun H locs hP hS => ?_)
  obtain ⟨h8, h9⟩ := qs_ret hF
  exact W.iret (v := r3) hx hb hr (fun t ht hW => ⟨⟨r3, u2, rfl, ⟨h8, h9⟩, by rw [ht]; exact hP, va_K.moved hW.alike hK, hD⟩, hS.F ht⟩) hS.2.2 d_E_wholeField_9

theorem d_E_put_0 : decode b_E_put 0 = .ok (.aload_n 0, 1) := by decide +kernel
theorem d_E_put_1 : decode b_E_put 1 = .ok (.iload_n 1, 1) := by decide +kernel
theorem d_E_put_2 : decode b_E_put 2 = .ok (.invokevirtual 19, 3) := by decide +kernel
theorem d_E_put_5 : decode b_E_put 5 = .ok (.ifCond .eq 15, 3) := by decide +kernel
theorem d_E_put_8 : decode b_E_put 8 = .ok (.aload_n 0, 1) := by decide +kernel
theorem d_E_put_9 : decode b_E_put 9 = .ok (.getfield 15, 3) := by decide +kernel
theorem d_E_put_12 : decode b_E_put 12 = .ok (.iload_n 1, 1) := by decide +kernel
theorem d_E_put_13 : decode b_E_put 13 = .ok (.bipush 16, 2) := by decide +kernel
theorem d_E_put_15 : decode b_E_put 15 = .ok (.imul, 1) := by decide +kernel
theorem d_E_put_16 : decode b_E_put 16 = .ok (.iload_n 2, 1) := by decide +kernel
theorem d_E_put_17 : decode b_E_put 17 = .ok (.iadd, 1) := by decide +kernel
theorem d_E_put_18 : decode b_E_put 18 = .ok (.iload_n 3, 1) := by decide +kernel
theorem d_E_put_19 : decode b_E_put 19 = .ok (.iastore, 1) := by decide +kernel
theorem d_E_put_20 : decode b_E_put 20 = .ok (.return_, 1) := by decide +kernel
def f_E_put (g : Sg) (a1 : Int32) (a2 : Int32) (a3 : Int32) : Option (Unit × Sg) := (qs_bn (f_E_isThere g (a1)) fun r1 u2 => (if r1 = 0 then (some ((), u2)) else (qs_in ((a1 * 16) + a2) 192 (qs_st (qs_a u2 8 ((a1 * 16) + a2).toNatClampNeg (a3)) fun u5 => (some ((), u5))))))
set_option maxHeartbeats 4000000 in
set_option maxRecDepth 100000 in
theorem c_E_put (l : Launch) (dC : Nat → ClassId) (dI : Nat → Nat → Nat) (h : Nat → Nat) (c : Nat → ClassId) (sz : Nat) (g : Sg) (a1 : Int32) (a2 : Int32) (a3 : Int32) (u0 : Sg) (hF : f_E_put g a1 a2 a3 = some ((), u0)) : Met l y_E_put (qs_ws y_E_put b_E_put 4 none) ({ frames := 1, cells := 0, slots := 0, locals := 21 } : Room) (va_Pc ([.ref (h 1), .int a1, .int a2, .int a3] : List Value) (fun U => U.heap.size = sz ∧ va_P (dC, dI) vwCl (qs_W h c g) U.heap ∧ va_K (dC, dI) vwCl (qs_T c) U ∧ va_D (fun _ => True) (qs_W h c g) ∧ qs_N U)) (va_Qv (fun (u : Sg) => u = u0) (qs_at dC dI h c (va_A (qs_W h c g) sz)) (va_A (qs_W h c g) sz)) 0 0 (va_A (qs_W h c g) sz) := by
  refine Met.ofW (cc := b_E_put) (maxL := 4) (ret := none) (by decide +kernel) rfl ?_
  intro p e s m args below meth cd s₁ B hml hv
  obtain ⟨rfl, hsz, hP, hK, hD0, hNs⟩ := hv
  have hx := B.exec
  have hb := B.bytes
  have hr := B.returns
  have hts := atoms_spec (ws := (qs_ws y_E_put b_E_put 4 none)) B.pre
  have hg : ∀ w ∈ qs_gt, w.before _ s = true := fun w h => hts w (List.mem_cons_of_mem _ h)
  have hown : s.vm.findClass R_E = some m.cls := findClass_of_methodNamed B.named
  have hlocks := B.notSynchronized
  subst hsz
  have hD := hD0.self (sz := s.heap.size)
  generalize hAe : va_A (qs_W h c g) s.heap.size = A at hD ⊢
  have hA : ∀ q : Nat, s.heap.size ≤ q → A q := fun q h => by rw [← hAe]; exact Or.inr h
  have hS : va_S A s.heap s.heap [] := va_S.rf
  have hl := lv_entry ([.ref (h 1), .int a1, .int a2, .int a3] : List Value) (n := 4) (Nat.le_of_ble_eq_true rfl)
  rw [lg_entry_eq]
  generalize (lg_sl ([.ref (h 1), .int a1, .int a2, .int a3] : List Value) ++ List.replicate (4 - (lg_sl ([.ref (h 1), .int a1, .int a2, .int a3] : List Value)).length) Slot.unset).toArray = ls at hl ⊢
  have hl : lv_has ls 4 [(0, .ref (h 1)), (1, .int (a1)), (2, .int (a2)), (3, .int (a3))] := hl
  unfold f_E_put at hF
  obtain ⟨H, hHe⟩ : ∃ H, H = s.heap := ⟨_, rfl⟩
  obtain ⟨locs, hLe⟩ : ∃ L : List Loc, L = [] := ⟨_, rfl⟩
  rw [← hHe] at hP ⊢
  rw [← hLe]
  have hS : va_S A s.heap H locs := by rw [hHe, hLe]; exact hS
  refine lv_aload_n hx hb d_E_put_0 rfl (lv_at hl 0 rfl) ?_
  refine lv_iload_n hx hb d_E_put_1 rfl (lv_at hl 1 rfl) ?_
  obtain ⟨r1, u2, hX, hF⟩ := qs_bn_some hF
  refine qs_ci (Wd := qs_W h c) (isC := [0, 1, 2, 3, 4, 5, 6, 7, 8, 9, 10, 11, 12, 13, 14, 15, 16]) (va_runV (own := "QuakeServer$Entities") (C := "QuakeServer$Entities") (As := [.int (a1)]) (rest := []) ⟨hx, hb, hml, hown, hg⟩ (c_E_isThere l dC dI h c H.size g (a1) r1 u2 hX) (cwV 1 hg (qs_gV t_358 t_188 t_189 t_2 t_190) rfl rfl rfl (by decide +kernel) ⟨Nat.le_of_ble_eq_true rfl, Nat.le_of_ble_eq_true rfl⟩) ⟨qs_blind, va_recv hK hP (ci := 0) (q0 := 1) rfl rfl, fun U hU hW => ⟨rfl, by rw [hU], by rw [hU]; exact hP, va_K.moved hW.alike hK, hD.weaken (fun _ _ _ _ => trivial), hNs.warm hW⟩⟩ rfl rfl hl.1 rfl (lv_room (Nat.le_of_ble_eq_true rfl)) d_E_put_2 ⟨Nat.le_of_ble_eq_true rfl, Nat.le_of_ble_eq_true rfl⟩) rfl hP hD hS hA (fun H locs hP hD hS => ?_)
  refine lv_if_eq (tgt := 20) hx hb d_E_put_5 (by decide) (fun c3 => ?_) (fun c3 => ?_)
  · have hF := qs_pos c3 hF
    obtain ⟨h8, h9⟩ := qs_ret hF
    exact W.vret hx hb hr (fun t ht hW => ⟨⟨u2, rfl, h9, by rw [ht]; exact hP, va_K.moved hW.alike hK, hD⟩, hS.F ht⟩) hS.2.2 d_E_put_20
  · have hF := qs_neg c3 hF
    refine lv_aload_n hx hb d_E_put_8 rfl (lv_at hl 0 rfl) ?_
    refine va_get (D := (dC, dI)) (ci := 0) (v := .ref (h 8)) (C := R_E) (T := T_E) (N := 2) hx hb hg in_E hown hK hP 1 rfl rfl 1 (by decide) (hg _ t_31) (fun _ h9 => h9) rfl d_E_put_9 ?_
    refine lv_iload_n hx hb d_E_put_12 rfl (lv_at hl 1 rfl) ?_
    refine lv_bipush (v := 16) hx hb d_E_put_13 (by decide) ?_
    refine lv_imul hx hb d_E_put_15 ?_
    refine lv_iload_n hx hb d_E_put_16 rfl (lv_at hl 2 rfl) ?_
    refine lv_iadd hx hb d_E_put_17 ?_
    refine lv_iload_n hx hb d_E_put_18 rfl (lv_at hl 3 rfl) ?_
    obtain ⟨c4, hF⟩ := qs_in_some hF
    refine va_iast hx hb hK hP hD hS 8 1 rfl rfl c4 d_E_put_19 (fun H locs hP hD hS => ?_)
    obtain ⟨u5, hu5, hF⟩ := qs_st_some hF
    have hP : va_P (dC, dI) vwCl (qs_W h c u5) H := by rw [hu5]; exact hP
    have hD : va_D A (qs_W h c u5) := by rw [hu5]; exact hD
    clear hu5
    obtain ⟨h8, h9⟩ := qs_ret hF
    exact W.vret hx hb hr (fun t ht hW => ⟨⟨u5, rfl, h9, by rw [ht]; exact hP, va_K.moved hW.alike hK, hD⟩, hS.F ht⟩) hS.2.2 d_E_put_20

theorem d_E_sizeUsed_0 : decode b_E_sizeUsed 0 = .ok (.aload_n 0, 1) := by decide +kernel
theorem d_E_sizeUsed_1 : decode b_E_sizeUsed 1 = .ok (.iload_n 1, 1) := by decide +kernel
theorem d_E_sizeUsed_2 : decode b_E_sizeUsed 2 = .ok (.iconst 4, 1) := by decide +kernel
theorem d_E_sizeUsed_3 : decode b_E_sizeUsed 3 = .ok (.invokevirtual 23, 3) := by decide +kernel
theorem d_E_sizeUsed_6 : decode b_E_sizeUsed 6 = .ok (.istore_n 2, 1) := by decide +kernel
theorem d_E_sizeUsed_7 : decode b_E_sizeUsed 7 = .ok (.bipush 8, 2) := by decide +kernel
theorem d_E_sizeUsed_9 : decode b_E_sizeUsed 9 = .ok (.sipush 256, 3) := by decide +kernel
theorem d_E_sizeUsed_12 : decode b_E_sizeUsed 12 = .ok (.iload_n 2, 1) := by decide +kernel
theorem d_E_sizeUsed_13 : decode b_E_sizeUsed 13 = .ok (.invokestatic 34, 3) := by decide +kernel
theorem d_E_sizeUsed_16 : decode b_E_sizeUsed 16 = .ok (.invokestatic 39, 3) := by decide +kernel
theorem d_E_sizeUsed_19 : decode b_E_sizeUsed 19 = .ok (.ireturn, 1) := by decide +kernel
def f_E_sizeUsed (g : Sg) (a1 : Int32) : Option (Int32 × Sg) := (qs_bn (f_E_field g (a1) (4)) fun r1 u2 => (some (if 8 < (if r1 < 256 then r1 else 256) then (if r1 < 256 then r1 else 256) else 8, u2)))
set_option maxHeartbeats 4000000 in
set_option maxRecDepth 100000 in
theorem c_E_sizeUsed (l : Launch) (dC : Nat → ClassId) (dI : Nat → Nat → Nat) (h : Nat → Nat) (c : Nat → ClassId) (sz : Nat) (g : Sg) (a1 : Int32) (r0 : Int32) (u0 : Sg) (hF : f_E_sizeUsed g a1 = some (r0, u0)) : Met l y_E_sizeUsed (qs_ws y_E_sizeUsed b_E_sizeUsed 3 (some .int)) ({ frames := 1, cells := 0, slots := 0, locals := 22 } : Room) (va_Pc ([.ref (h 1), .int a1] : List Value) (fun U => U.heap.size = sz ∧ va_P (dC, dI) vwCl (qs_W h c g) U.heap ∧ va_K (dC, dI) vwCl (qs_T c) U ∧ va_D (fun _ => True) (qs_W h c g) ∧ qs_N U)) (va_Qi (fun (r : Int32) (u : Sg) => r = r0 ∧ u = u0) (qs_at dC dI h c (va_A (qs_W h c g) sz)) (va_A (qs_W h c g) sz)) 0 0 (va_A (qs_W h c g) sz) := by
  refine Met.ofW (cc := b_E_sizeUsed) (maxL := 3) (ret := (some .int)) (by decide +kernel) rfl ?_
  intro p e s m args below meth cd s₁ B hml hv
  obtain ⟨rfl, hsz, hP, hK, hD0, hNs⟩ := hv
  have hx := B.exec
  have hb := B.bytes
  have hr := B.returns
  have hts := atoms_spec (ws := (qs_ws y_E_sizeUsed b_E_sizeUsed 3 (some .int))) B.pre
  have hg : ∀ w ∈ qs_gt, w.before _ s = true := fun w h => hts w (List.mem_cons_of_mem _ h)
  have hown : s.vm.findClass R_E = some m.cls := findClass_of_methodNamed B.named
  have hlocks := B.notSynchronized
  subst hsz
  have hD := hD0.self (sz := s.heap.size)
  generalize hAe : va_A (qs_W h c g) s.heap.size = A at hD ⊢
  have hA : ∀ q : Nat, s.heap.size ≤ q → A q := fun q h => by rw [← hAe]; exact Or.inr h
  have hS : va_S A s.heap s.heap [] := va_S.rf
  have hl := lv_entry ([.ref (h 1), .int a1] : List Value) (n := 3) (Nat.le_of_ble_eq_true rfl)
  rw [lg_entry_eq]
  generalize (lg_sl ([.ref (h 1), .int a1] : List Value) ++ List.replicate (3 - (lg_sl ([.ref (h 1), .int a1] : List Value)).length) Slot.unset).toArray = ls at hl ⊢
  have hl : lv_has ls 3 [(0, .ref (h 1)), (1, .int (a1))] := hl
  unfold f_E_sizeUsed at hF
  obtain ⟨H, hHe⟩ : ∃ H, H = s.heap := ⟨_, rfl⟩
  obtain ⟨locs, hLe⟩ : ∃ L : List Loc, L = [] := ⟨_, rfl⟩
  rw [← hHe] at hP ⊢
  rw [← hLe]
  have hS : va_S A s.heap H locs := by rw [hHe, hLe]; exact hS
  refine lv_aload_n hx hb d_E_sizeUsed_0 rfl (lv_at hl 0 rfl) ?_
  refine lv_iload_n hx hb d_E_sizeUsed_1 rfl (lv_at hl 1 rfl) ?_
  refine lv_iconst (v := 4) hx hb d_E_sizeUsed_2 (by decide) ?_
  obtain ⟨r1, u2, hX, hF⟩ := qs_bn_some hF
  refine qs_ci (Wd := qs_W h c) (isC := [0, 1, 2, 3, 4, 5, 6, 7, 8, 9, 10, 11, 12, 13, 14, 15, 16]) (va_runV (own := "QuakeServer$Entities") (C := "QuakeServer$Entities") (As := [.int (a1), .int (4)]) (rest := []) ⟨hx, hb, hml, hown, hg⟩ (c_E_field l dC dI h c H.size g (a1) (4) r1 u2 hX) (cwV 2 hg (qs_gV t_512 t_192 t_193 t_2 t_194) rfl rfl rfl (by decide +kernel) ⟨Nat.le_of_ble_eq_true rfl, Nat.le_of_ble_eq_true rfl⟩) ⟨qs_blind, va_recv hK hP (ci := 0) (q0 := 1) rfl rfl, fun U hU hW => ⟨rfl, by rw [hU], by rw [hU]; exact hP, va_K.moved hW.alike hK, hD.weaken (fun _ _ _ _ => trivial), hNs.warm hW⟩⟩ rfl rfl hl.1 rfl (lv_room (Nat.le_of_ble_eq_true rfl)) d_E_sizeUsed_3 ⟨Nat.le_of_ble_eq_true rfl, Nat.le_of_ble_eq_true rfl⟩) rfl hP hD hS hA (fun H locs hP hD hS => ?_)
  refine lv_istore_n (lv' := [(2, .int (r1)), (0, .ref (h 1)), (1, .int (a1))]) hx hb d_E_sizeUsed_6 rfl hl (by decide) rfl (fun ls hl => ?_)
  refine lv_bipush (v := 8) hx hb d_E_sizeUsed_7 (by decide) ?_
  refine lv_sipush (v := 256) hx hb d_E_sizeUsed_9 (by decide) ?_
  refine lv_iload_n hx hb d_E_sizeUsed_12 rfl (lv_at hl 0 rfl) ?_
  refine va_mmin hx hb (hml.trans hl.1.symm) hown (hg _ t_543) (hg _ t_544) (hg _ t_15) (hg _ t_545) (Nat.le_of_ble_eq_true rfl) (Nat.le_of_ble_eq_true rfl) (Nat.zero_le _) (Nat.zero_le _) d_E_sizeUsed_13 ?_
  refine va_mmax hx hb (hml.trans hl.1.symm) hown (hg _ t_546) (hg _ t_547) (hg _ t_15) (hg _ t_548) (Nat.le_of_ble_eq_true rfl) (Nat.le_of_ble_eq_true rfl) (Nat.zero_le _) (Nat.zero_le _) d_E_sizeUsed_16 ?_
  obtain ⟨h8, h9⟩ := qs_ret hF
  exact W.iret (v := if 8 < (if r1 < 256 then r1 else 256) then (if r1 < 256 then r1 else 256) else 8) hx hb hr (fun t ht hW => ⟨⟨(if 8 < (if r1 < 256 then r1 else 256) then (if r1 < 256 then r1 else 256) else 8), u2, rfl, ⟨h8, h9⟩, by rw [ht]; exact hP, va_K.moved hW.alike hK, hD⟩, hS.F ht⟩) hS.2.2 d_E_sizeUsed_19

theorem d_E_low_0 : decode b_E_low 0 = .ok (.aload_n 0, 1) := by decide +kernel
theorem d_E_low_1 : decode b_E_low 1 = .ok (.iload_n 1, 1) := by decide +kernel
theorem d_E_low_2 : decode b_E_low 2 = .ok (.iload_n 2, 1) := by decide +kernel
theorem d_E_low_3 : decode b_E_low 3 = .ok (.invokevirtual 23, 3) := by decide +kernel
theorem d_E_low_6 : decode b_E_low 6 = .ok (.aload_n 0, 1) := by decide +kernel
theorem d_E_low_7 : decode b_E_low 7 = .ok (.iload_n 1, 1) := by decide +kernel
theorem d_E_low_8 : decode b_E_low 8 = .ok (.invokevirtual 31, 3) := by decide +kernel
theorem d_E_low_11 : decode b_E_low 11 = .ok (.isub, 1) := by decide +kernel
theorem d_E_low_12 : decode b_E_low 12 = .ok (.ireturn, 1) := by decide +kernel
def f_E_low (g : Sg) (a1 : Int32) (a2 : Int32) : Option (Int32 × Sg) := (qs_bn (f_E_field g (a1) (a2)) fun r1 u2 => (qs_bn (f_E_sizeUsed u2 (a1)) fun r3 u4 => (some (r1 - r3, u4))))
set_option maxHeartbeats 4000000 in
set_option maxRecDepth 100000 in
theorem c_E_low (l : Launch) (dC : Nat → ClassId) (dI : Nat → Nat → Nat) (h : Nat → Nat) (c : Nat → ClassId) (sz : Nat) (g : Sg) (a1 : Int32) (a2 : Int32) (r0 : Int32) (u0 : Sg) (hF : f_E_low g a1 a2 = some (r0, u0)) : Met l y_E_low (qs_ws y_E_low b_E_low 3 (some .int)) ({ frames := 2, cells := 0, slots := 0, locals := 44 } : Room) (va_Pc ([.ref (h 1), .int a1, .int a2] : List Value) (fun U => U.heap.size = sz ∧ va_P (dC, dI) vwCl (qs_W h c g) U.heap ∧ va_K (dC, dI) vwCl (qs_T c) U ∧ va_D (fun _ => True) (qs_W h c g) ∧ qs_N U)) (va_Qi (fun (r : Int32) (u : Sg) => r = r0 ∧ u = u0) (qs_at dC dI h c (va_A (qs_W h c g) sz)) (va_A (qs_W h c g) sz)) 0 0 (va_A (qs_W h c g) sz) := by
  refine Met.ofW (cc := b_E_low) (maxL := 3) (ret := (some .int)) (by decide +kernel) rfl ?_
  intro p e s m args below meth cd s₁ B hml hv
  obtain ⟨rfl, hsz, hP, hK, hD0, hNs⟩ := hv
  have hx := B.exec
  have hb := B.bytes
  have hr := B.returns
  have hts := atoms_spec (ws := (qs_ws y_E_low b_E_low 3 (some .int))) B.pre
  have hg : ∀ w ∈ qs_gt, w.before _ s = true := fun w h => hts w (List.mem_cons_of_mem _ h)
  have hown : s.vm.findClass R_E = some m.cls := findClass_of_methodNamed B.named
  have hlocks := B.notSynchronized
  subst hsz
  have hD := hD0.self (sz := s.heap.size)
  generalize hAe : va_A (qs_W h c g) s.heap.size = A at hD ⊢
  have hA : ∀ q : Nat, s.heap.size ≤ q → A q := fun q h => by rw [← hAe]; exact Or.inr h
  have hS : va_S A s.heap s.heap [] := va_S.rf
  have hl := lv_entry ([.ref (h 1), .int a1, .int a2] : List Value) (n := 3) (Nat.le_of_ble_eq_true rfl)
  rw [lg_entry_eq]
  generalize (lg_sl ([.ref (h 1), .int a1, .int a2] : List Value) ++ List.replicate (3 - (lg_sl ([.ref (h 1), .int a1, .int a2] : List Value)).length) Slot.unset).toArray = ls at hl ⊢
  have hl : lv_has ls 3 [(0, .ref (h 1)), (1, .int (a1)), (2, .int (a2))] := hl
  unfold f_E_low at hF
  obtain ⟨H, hHe⟩ : ∃ H, H = s.heap := ⟨_, rfl⟩
  obtain ⟨locs, hLe⟩ : ∃ L : List Loc, L = [] := ⟨_, rfl⟩
  rw [← hHe] at hP ⊢
  rw [← hLe]
  have hS : va_S A s.heap H locs := by rw [hHe, hLe]; exact hS
  refine lv_aload_n hx hb d_E_low_0 rfl (lv_at hl 0 rfl) ?_
  refine lv_iload_n hx hb d_E_low_1 rfl (lv_at hl 1 rfl) ?_
  refine lv_iload_n hx hb d_E_low_2 rfl (lv_at hl 2 rfl) ?_
  obtain ⟨r1, u2, hX, hF⟩ := qs_bn_some hF
  refine qs_ci (Wd := qs_W h c) (isC := [0, 1, 2, 3, 4, 5, 6, 7, 8, 9, 10, 11, 12, 13, 14, 15, 16]) (va_runV (own := "QuakeServer$Entities") (C := "QuakeServer$Entities") (As := [.int (a1), .int (a2)]) (rest := []) ⟨hx, hb, hml, hown, hg⟩ (c_E_field l dC dI h c H.size g (a1) (a2) r1 u2 hX) (cwV 2 hg (qs_gV t_512 t_192 t_193 t_2 t_194) rfl rfl rfl (by decide +kernel) ⟨Nat.le_of_ble_eq_true rfl, Nat.le_of_ble_eq_true rfl⟩) ⟨qs_blind, va_recv hK hP (ci := 0) (q0 := 1) rfl rfl, fun U hU hW => ⟨rfl, by rw [hU], by rw [hU]; exact hP, va_K.moved hW.alike hK, hD.weaken (fun _ _ _ _ => trivial), hNs.warm hW⟩⟩ rfl rfl hl.1 rfl (lv_room (Nat.le_of_ble_eq_true rfl)) d_E_low_3 ⟨Nat.le_of_ble_eq_true rfl, Nat.le_of_ble_eq_true rfl⟩) rfl hP hD hS hA (fun H locs hP hD hS => ?_)
  refine lv_aload_n hx hb d_E_low_6 rfl (lv_at hl 0 rfl) ?_
  refine lv_iload_n hx hb d_E_low_7 rfl (lv_at hl 1 rfl) ?_
  obtain ⟨r3, u4, hX, hF⟩ := qs_bn_some hF
  refine qs_ci (Wd := qs_W h c) (isC := [0, 1, 2, 3, 4, 5, 6, 7, 8, 9, 10, 11, 12, 13, 14, 15, 16]) (va_runV (own := "QuakeServer$Entities") (C := "QuakeServer$Entities") (As := [.int (a1)]) (rest := [.int (r1)]) ⟨hx, hb, hml, hown, hg⟩ (c_E_sizeUsed l dC dI h c H.size u2 (a1) r3 u4 hX) (cwV 1 hg (qs_gV t_539 t_541 tp_11 t_2 t_542) rfl rfl rfl (by decide +kernel) ⟨Nat.le_of_ble_eq_true rfl, Nat.le_of_ble_eq_true rfl⟩) ⟨qs_blind, va_recv hK hP (ci := 0) (q0 := 1) rfl rfl, fun U hU hW => ⟨rfl, by rw [hU], by rw [hU]; exact hP, va_K.moved hW.alike hK, hD.weaken (fun _ _ _ _ => trivial), hNs.warm hW⟩⟩ rfl rfl hl.1 rfl (lv_room (Nat.le_of_ble_eq_true rfl)) d_E_low_8 ⟨Nat.le_of_ble_eq_true rfl, Nat.le_of_ble_eq_true rfl⟩) rfl hP hD hS hA (fun H locs hP hD hS => ?_)
  refine lv_isub hx hb d_E_low_11 ?_
  obtain ⟨h8, h9⟩ := qs_ret hF
  exact W.iret (v := r1 - r3) hx hb hr (fun t ht hW => ⟨⟨(r1 - r3), u4, rfl, ⟨h8, h9⟩, by rw [ht]; exact hP, va_K.moved hW.alike hK, hD⟩, hS.F ht⟩) hS.2.2 d_E_low_12

theorem d_E_high_0 : decode b_E_high 0 = .ok (.aload_n 0, 1) := by decide +kernel
theorem d_E_high_1 : decode b_E_high 1 = .ok (.iload_n 1, 1) := by decide +kernel
theorem d_E_high_2 : decode b_E_high 2 = .ok (.iload_n 2, 1) := by decide +kernel
theorem d_E_high_3 : decode b_E_high 3 = .ok (.invokevirtual 23, 3) := by decide +kernel
theorem d_E_high_6 : decode b_E_high 6 = .ok (.aload_n 0, 1) := by decide +kernel
theorem d_E_high_7 : decode b_E_high 7 = .ok (.iload_n 1, 1) := by decide +kernel
theorem d_E_high_8 : decode b_E_high 8 = .ok (.invokevirtual 31, 3) := by decide +kernel
theorem d_E_high_11 : decode b_E_high 11 = .ok (.iadd, 1) := by decide +kernel
theorem d_E_high_12 : decode b_E_high 12 = .ok (.ireturn, 1) := by decide +kernel
def f_E_high (g : Sg) (a1 : Int32) (a2 : Int32) : Option (Int32 × Sg) := (qs_bn (f_E_field g (a1) (a2)) fun r1 u2 => (qs_bn (f_E_sizeUsed u2 (a1)) fun r3 u4 => (some (r1 + r3, u4))))
set_option maxHeartbeats 4000000 in
set_option maxRecDepth 100000 in
theorem c_E_high (l : Launch) (dC : Nat → ClassId) (dI : Nat → Nat → Nat) (h : Nat → Nat) (c : Nat → ClassId) (sz : Nat) (g : Sg) (a1 : Int32) (a2 : Int32) (r0 : Int32) (u0 : Sg) (hF : f_E_high g a1 a2 = some (r0, u0)) : Met l y_E_high (qs_ws y_E_high b_E_high 3 (some .int)) ({ frames := 2, cells := 0, slots := 0, locals := 44 } : Room) (va_Pc ([.ref (h 1), .int a1, .int a2] : List Value) (fun U => U.heap.size = sz ∧ va_P (dC, dI) vwCl (qs_W h c g) U.heap ∧ va_K (dC, dI) vwCl (qs_T c) U ∧ va_D (fun _ => True) (qs_W h c g) ∧ qs_N U)) (va_Qi (fun (r : Int32) (u : Sg) => r = r0 ∧ u = u0) (qs_at dC dI h c (va_A (qs_W h c g) sz)) (va_A (qs_W h c g) sz)) 0 0 (va_A (qs_W h c g) sz) := by
  refine Met.ofW (cc := b_E_high) (maxL := 3) (ret := (some .int)) (by decide +kernel) rfl ?_
  intro p e s m args below meth cd s₁ B hml hv
  obtain ⟨rfl, hsz, hP, hK, hD0, hNs⟩ := hv
  have hx := B.exec
  have hb := B.bytes
  have hr := B.returns
  have hts := atoms_spec (ws := (qs_ws y_E_high b_E_high 3 (some .int))) B.pre
  have hg : ∀ w ∈ qs_gt, w.before _ s = true := fun w h => hts w (List.mem_cons_of_mem _ h)
  have hown : s.vm.findClass R_E = some m.cls := findClass_of_methodNamed B.named
  have hlocks := B.notSynchronized
  subst hsz
  have hD := hD0.self (sz := s.heap.size)
  generalize hAe : va_A (qs_W h c g) s.heap.size = A at hD ⊢
  have hA : ∀ q : Nat, s.heap.size ≤ q → A q := fun q h => by rw [← hAe]; exact Or.inr h
  have hS : va_S A s.heap s.heap [] := va_S.rf
  have hl := lv_entry ([.ref (h 1), .int a1, .int a2] : List Value) (n := 3) (Nat.le_of_ble_eq_true rfl)
  rw [lg_entry_eq]
  generalize (lg_sl ([.ref (h 1), .int a1, .int a2] : List Value) ++ List.replicate (3 - (lg_sl ([.ref (h 1), .int a1, .int a2] : List Value)).length) Slot.unset).toArray = ls at hl ⊢
  have hl : lv_has ls 3 [(0, .ref (h 1)), (1, .int (a1)), (2, .int (a2))] := hl
  unfold f_E_high at hF
  obtain ⟨H, hHe⟩ : ∃ H, H = s.heap := ⟨_, rfl⟩
  obtain ⟨locs, hLe⟩ : ∃ L : List Loc, L = [] := ⟨_, rfl⟩
  rw [← hHe] at hP ⊢
  rw [← hLe]
  have hS : va_S A s.heap H locs := by rw [hHe, hLe]; exact hS
  refine lv_aload_n hx hb d_E_high_0 rfl (lv_at hl 0 rfl) ?_
  refine lv_iload_n hx hb d_E_high_1 rfl (lv_at hl 1 rfl) ?_
  refine lv_iload_n hx hb d_E_high_2 rfl (lv_at hl 2 rfl) ?_
  obtain ⟨r1, u2, hX, hF⟩ := qs_bn_some hF
  refine qs_ci (Wd := qs_W h c) (isC := [0, 1, 2, 3, 4, 5, 6, 7, 8, 9, 10, 11, 12, 13, 14, 15, 16]) (va_runV (own := "QuakeServer$Entities") (C := "QuakeServer$Entities") (As := [.int (a1), .int (a2)]) (rest := []) ⟨hx, hb, hml, hown, hg⟩ (c_E_field l dC dI h c H.size g (a1) (a2) r1 u2 hX) (cwV 2 hg (qs_gV t_512 t_192 t_193 t_2 t_194) rfl rfl rfl (by decide +kernel) ⟨Nat.le_of_ble_eq_true rfl, Nat.le_of_ble_eq_true rfl⟩) ⟨qs_blind, va_recv hK hP (ci := 0) (q0 := 1) rfl rfl, fun U hU hW => ⟨rfl, by rw [hU], by rw [hU]; exact hP, va_K.moved hW.alike hK, hD.weaken (fun _ _ _ _ => trivial), hNs.warm hW⟩⟩ rfl rfl hl.1 rfl (lv_room (Nat.le_of_ble_eq_true rfl)) d_E_high_3 ⟨Nat.le_of_ble_eq_true rfl, Nat.le_of_ble_eq_true rfl⟩) rfl hP hD hS hA (fun H locs hP hD hS => ?_)
  refine lv_aload_n hx hb d_E_high_6 rfl (lv_at hl 0 rfl) ?_
  refine lv_iload_n hx hb d_E_high_7 rfl (lv_at hl 1 rfl) ?_
  obtain ⟨r3, u4, hX, hF⟩ := qs_bn_some hF
  refine qs_ci (Wd := qs_W h c) (isC := [0, 1, 2, 3, 4, 5, 6, 7, 8, 9, 10, 11, 12, 13, 14, 15, 16]) (va_runV (own := "QuakeServer$Entities") (C := "QuakeServer$Entities") (As := [.int (a1)]) (rest := [.int (r1)]) ⟨hx, hb, hml, hown, hg⟩ (c_E_sizeUsed l dC dI h c H.size u2 (a1) r3 u4 hX) (cwV 1 hg (qs_gV t_539 t_541 tp_11 t_2 t_542) rfl rfl rfl (by decide +kernel) ⟨Nat.le_of_ble_eq_true rfl, Nat.le_of_ble_eq_true rfl⟩) ⟨qs_blind, va_recv hK hP (ci := 0) (q0 := 1) rfl rfl, fun U hU hW => ⟨rfl, by rw [hU], by rw [hU]; exact hP, va_K.moved hW.alike hK, hD.weaken (fun _ _ _ _ => trivial), hNs.warm hW⟩⟩ rfl rfl hl.1 rfl (lv_room (Nat.le_of_ble_eq_true rfl)) d_E_high_8 ⟨Nat.le_of_ble_eq_true rfl, Nat.le_of_ble_eq_true rfl⟩) rfl hP hD hS hA (fun H locs hP hD hS => ?_)
  refine lv_iadd hx hb d_E_high_11 ?_
  obtain ⟨h8, h9⟩ := qs_ret hF
  exact W.iret (v := r1 + r3) hx hb hr (fun t ht hW => ⟨⟨(r1 + r3), u4, rfl, ⟨h8, h9⟩, by rw [ht]; exact hP, va_K.moved hW.alike hK, hD⟩, hS.F ht⟩) hS.2.2 d_E_high_12

theorem d_E_boxesOverlap_0 : decode b_E_boxesOverlap 0 = .ok (.aload_n 0, 1) := by decide +kernel
theorem d_E_boxesOverlap_1 : decode b_E_boxesOverlap 1 = .ok (.iload_n 1, 1) := by decide +kernel
theorem d_E_boxesOverlap_2 : decode b_E_boxesOverlap 2 = .ok (.iload_n 3, 1) := by decide +kernel
theorem d_E_boxesOverlap_3 : decode b_E_boxesOverlap 3 = .ok (.invokevirtual 23, 3) := by decide +kernel
theorem d_E_boxesOverlap_6 : decode b_E_boxesOverlap 6 = .ok (.aload_n 0, 1) := by decide +kernel
theorem d_E_boxesOverlap_7 : decode b_E_boxesOverlap 7 = .ok (.iload_n 2, 1) := by decide +kernel
theorem d_E_boxesOverlap_8 : decode b_E_boxesOverlap 8 = .ok (.iload_n 3, 1) := by decide +kernel
theorem d_E_boxesOverlap_9 : decode b_E_boxesOverlap 9 = .ok (.invokevirtual 23, 3) := by decide +kernel
theorem d_E_boxesOverlap_12 : decode b_E_boxesOverlap 12 = .ok (.isub, 1) := by decide +kernel
theorem d_E_boxesOverlap_13 : decode b_E_boxesOverlap 13 = .ok (.invokestatic 42, 3) := by decide +kernel
theorem d_E_boxesOverlap_16 : decode b_E_boxesOverlap 16 = .ok (.istore 4, 2) := by decide +kernel
theorem d_E_boxesOverlap_18 : decode b_E_boxesOverlap 18 = .ok (.iload 4, 2) := by decide +kernel
theorem d_E_boxesOverlap_20 : decode b_E_boxesOverlap 20 = .ok (.aload_n 0, 1) := by decide +kernel
theorem d_E_boxesOverlap_21 : decode b_E_boxesOverlap 21 = .ok (.iload_n 1, 1) := by decide +kernel
theorem d_E_boxesOverlap_22 : decode b_E_boxesOverlap 22 = .ok (.invokevirtual 31, 3) := by decide +kernel
theorem d_E_boxesOverlap_25 : decode b_E_boxesOverlap 25 = .ok (.aload_n 0, 1) := by decide +kernel
theorem d_E_boxesOverlap_26 : decode b_E_boxesOverlap 26 = .ok (.iload_n 2, 1) := by decide +kernel
theorem d_E_boxesOverlap_27 : decode b_E_boxesOverlap 27 = .ok (.invokevirtual 31, 3) := by decide +kernel
theorem d_E_boxesOverlap_30 : decode b_E_boxesOverlap 30 = .ok (.iadd, 1) := by decide +kernel
theorem d_E_boxesOverlap_31 : decode b_E_boxesOverlap 31 = .ok (.if_icmp .ge 7, 3) := by decide +kernel
theorem d_E_boxesOverlap_34 : decode b_E_boxesOverlap 34 = .ok (.iconst 1, 1) := by decide +kernel
theorem d_E_boxesOverlap_35 : decode b_E_boxesOverlap 35 = .ok (.goto 4, 3) := by decide +kernel
theorem d_E_boxesOverlap_38 : decode b_E_boxesOverlap 38 = .ok (.iconst 0, 1) := by decide +kernel
theorem d_E_boxesOverlap_39 : decode b_E_boxesOverlap 39 = .ok (.ireturn, 1) := by decide +kernel
def f_E_boxesOverlap (g : Sg) (a1 : Int32) (a2 : Int32) (a3 : Int32) : Option (Int32 × Sg) := (qs_bn (f_E_field g (a1) (a3)) fun r1 u2 => (qs_bn (f_E_field u2 (a2) (a3)) fun r3 u4 => (qs_bn (f_E_sizeUsed u4 (a1)) fun r5 u6 => (qs_bn (f_E_sizeUsed u6 (a2)) fun r7 u8 => (if (r5 + r7) ≤ (if 0 ≤ (r1 - r3) then (r1 - r3) else 0 - (r1 - r3)) then (some (0, u8)) else (some (1, u8)))))))
set_option maxHeartbeats 4000000 in
set_option maxRecDepth 100000 in
theorem c_E_boxesOverlap (l : Launch) (dC : Nat → ClassId) (dI : Nat → Nat → Nat) (h : Nat → Nat) (c : Nat → ClassId) (sz : Nat) (g : Sg) (a1 : Int32) (a2 : Int32) (a3 : Int32) (r0 : Int32) (u0 : Sg) (hF : f_E_boxesOverlap g a1 a2 a3 = some (r0, u0)) : Met l y_E_boxesOverlap (qs_ws y_E_boxesOverlap b_E_boxesOverlap 5 (some .boolean)) ({ frames := 2, cells := 0, slots := 0, locals := 44 } : Room) (va_Pc ([.ref (h 1), .int a1, .int a2, .int a3] : List Value) (fun U => U.heap.size = sz ∧ va_P (dC, dI) vwCl (qs_W h c g) U.heap ∧ va_K (dC, dI) vwCl (qs_T c) U ∧ va_D (fun _ => True) (qs_W h c g) ∧ qs_N U)) (va_Qi (fun (r : Int32) (u : Sg) => r = r0 ∧ u = u0) (qs_at dC dI h c (va_A (qs_W h c g) sz)) (va_A (qs_W h c g) sz)) 0 0 (va_A (qs_W h c g) sz) := by
  refine Met.ofW (cc := b_E_boxesOverlap) (maxL := 5) (ret := (some .boolean)) (by decide +kernel) rfl ?_
  intro p e s m args below meth cd s₁ B hml hv
  obtain ⟨rfl, hsz, hP, hK, hD0, hNs⟩ := hv
  have hx := B.exec
  have hb := B.bytes
  have hr := B.returns
  have hts := atoms_spec (ws := (qs_ws y_E_boxesOverlap b_E_boxesOverlap 5 (some .boolean))) B.pre
  have hg : ∀ w ∈ qs_gt, w.before _ s = true := fun w h => hts w (List.mem_cons_of_mem _ h)
  have hown : s.vm.findClass R_E = some m.cls := findClass_of_methodNamed B.named
  have hlocks := B.notSynchronized
  subst hsz
  have hD := hD0.self (sz := s.heap.size)
  generalize hAe : va_A (qs_W h c g) s.heap.size = A at hD ⊢
  have hA : ∀ q : Nat, s.heap.size ≤ q → A q := fun q h => by rw [← hAe]; exact Or.inr h
  have hS : va_S A s.heap s.heap [] := va_S.rf
  have hl := lv_entry ([.ref (h 1), .int a1, .int a2, .int a3] : List Value) (n := 5) (Nat.le_of_ble_eq_true rfl)
  rw [lg_entry_eq]
  generalize (lg_sl ([.ref (h 1), .int a1, .int a2, .int a3] : List Value) ++ List.replicate (5 - (lg_sl ([.ref (h 1), .int a1, .int a2, .int a3] : List Value)).length) Slot.unset).toArray = ls at hl ⊢
  have hl : lv_has ls 5 [(0, .ref (h 1)), (1, .int (a1)), (2, .int (a2)), (3, .int (a3))] := hl
  unfold f_E_boxesOverlap at hF
  obtain ⟨H, hHe⟩ : ∃ H, H = s.heap := ⟨_, rfl⟩
  obtain ⟨locs, hLe⟩ : ∃ L : List Loc, L = [] := ⟨_, rfl⟩
  rw [← hHe] at hP ⊢
  rw [← hLe]
  have hS : va_S A s.heap H locs := by rw [hHe, hLe]; exact hS
  refine lv_aload_n hx hb d_E_boxesOverlap_0 rfl (lv_at hl 0 rfl) ?_
  refine lv_iload_n hx hb d_E_boxesOverlap_1 rfl (lv_at hl 1 rfl) ?_
  refine lv_iload_n hx hb d_E_boxesOverlap_2 rfl (lv_at hl 3 rfl) ?_
  obtain ⟨r1, u2, hX, hF⟩ := qs_bn_some hF
  refine qs_ci (Wd := qs_W h c) (isC := [0, 1, 2, 3, 4, 5, 6, 7, 8, 9, 10, 11, 12, 13, 14, 15, 16]) (va_runV (own := "QuakeServer$Entities") (C := "QuakeServer$Entities") (As := [.int (a1), .int (a3)]) (rest := []) ⟨hx, hb, hml, hown, hg⟩ (c_E_field l dC dI h c H.size g (a1) (a3) r1 u2 hX) (cwV 2 hg (qs_gV t_512 t_192 t_193 t_2 t_194) rfl rfl rfl (by decide +kernel) ⟨Nat.le_of_ble_eq_true rfl, Nat.le_of_ble_eq_true rfl⟩) ⟨qs_blind, va_recv hK hP (ci := 0) (q0 := 1) rfl rfl, fun U hU hW => ⟨rfl, by rw [hU], by rw [hU]; exact hP, va_K.moved hW.alike hK, hD.weaken (fun _ _ _ _ => trivial), hNs.warm hW⟩⟩ rfl rfl hl.1 rfl (lv_room (Nat.le_of_ble_eq_true rfl)) d_E_boxesOverlap_3 ⟨Nat.le_of_ble_eq_true rfl, Nat.le_of_ble_eq_true rfl⟩) rfl hP hD hS hA (fun H locs hP hD hS => ?_)
  refine lv_aload_n hx hb d_E_boxesOverlap_6 rfl (lv_at hl 0 rfl) ?_
  refine lv_iload_n hx hb d_E_boxesOverlap_7 rfl (lv_at hl 2 rfl) ?_
  refine lv_iload_n hx hb d_E_boxesOverlap_8 rfl (lv_at hl 3 rfl) ?_
  obtain ⟨r3, u4, hX, hF⟩ := qs_bn_some hF
  refine qs_ci (Wd := qs_W h c) (isC := [0, 1, 2, 3, 4, 5, 6, 7, 8, 9, 10, 11, 12, 13, 14, 15, 16]) (va_runV (own := "QuakeServer$Entities") (C := "QuakeServer$Entities") (As := [.int (a2), .int (a3)]) (rest := [.int (r1)]) ⟨hx, hb, hml, hown, hg⟩ (c_E_field l dC dI h c H.size u2 (a2) (a3) r3 u4 hX) (cwV 2 hg (qs_gV t_512 t_192 t_193 t_2 t_194) rfl rfl rfl (by decide +kernel) ⟨Nat.le_of_ble_eq_true rfl, Nat.le_of_ble_eq_true rfl⟩) ⟨qs_blind, va_recv hK hP (ci := 0) (q0 := 1) rfl rfl, fun U hU hW => ⟨rfl, by rw [hU], by rw [hU]; exact hP, va_K.moved hW.alike hK, hD.weaken (fun _ _ _ _ => trivial), hNs.warm hW⟩⟩ rfl rfl hl.1 rfl (lv_room (Nat.le_of_ble_eq_true rfl)) d_E_boxesOverlap_9 ⟨Nat.le_of_ble_eq_true rfl, Nat.le_of_ble_eq_true rfl⟩) rfl hP hD hS hA (fun H locs hP hD hS => ?_)
  refine lv_isub hx hb d_E_boxesOverlap_12 ?_
  refine va_mabs hx hb (hml.trans hl.1.symm) hown (hg _ t_577) (hg _ t_529) (hg _ t_15) (hg _ t_530) (Nat.le_of_ble_eq_true rfl) (Nat.le_of_ble_eq_true rfl) (Nat.zero_le _) (Nat.zero_le _) d_E_boxesOverlap_13 ?_
  refine lv_istore (lv' := [(4, .int (if 0 ≤ (r1 - r3) then (r1 - r3) else 0 - (r1 - r3))), (0, .ref (h 1)), (1, .int (a1)), (2, .int (a2)), (3, .int (a3))]) hx hb d_E_boxesOverlap_16 hl (by decide) rfl (fun ls hl => ?_)
  refine lv_iload hx hb d_E_boxesOverlap_18 (lv_at hl 0 rfl) ?_
  refine lv_aload_n hx hb d_E_boxesOverlap_20 rfl (lv_at hl 1 rfl) ?_
  refine lv_iload_n hx hb d_E_boxesOverlap_21 rfl (lv_at hl 2 rfl) ?_
  obtain ⟨r5, u6, hX, hF⟩ := qs_bn_some hF
  refine qs_ci (Wd := qs_W h c) (isC := [0, 1, 2, 3, 4, 5, 6, 7, 8, 9, 10, 11, 12, 13, 14, 15, 16]) (va_runV (own := "QuakeServer$Entities") (C := "QuakeServer$Entities") (As := [.int (a1)]) (rest := [.int (if 0 ≤ (r1 - r3) then (r1 - r3) else 0 - (r1 - r3))]) ⟨hx, hb, hml, hown, hg⟩ (c_E_sizeUsed l dC dI h c H.size u4 (a1) r5 u6 hX) (cwV 1 hg (qs_gV t_539 t_541 tp_11 t_2 t_542) rfl rfl rfl (by decide +kernel) ⟨Nat.le_of_ble_eq_true rfl, Nat.le_of_ble_eq_true rfl⟩) ⟨qs_blind, va_recv hK hP (ci := 0) (q0 := 1) rfl rfl, fun U hU hW => ⟨rfl, by rw [hU], by rw [hU]; exact hP, va_K.moved hW.alike hK, hD.weaken (fun _ _ _ _ => trivial), hNs.warm hW⟩⟩ rfl rfl hl.1 rfl (lv_room (Nat.le_of_ble_eq_true rfl)) d_E_boxesOverlap_22 ⟨Nat.le_of_ble_eq_true rfl, Nat.le_of_ble_eq_true rfl⟩) rfl hP hD hS hA (fun H locs hP hD hS => ?_)
  refine lv_aload_n hx hb d_E_boxesOverlap_25 rfl (lv_at hl 1 rfl) ?_
  refine lv_iload_n hx hb d_E_boxesOverlap_26 rfl (lv_at hl 3 rfl) ?_
  obtain ⟨r7, u8, hX, hF⟩ := qs_bn_some hF
  refine qs_ci (Wd := qs_W h c) (isC := [0, 1, 2, 3, 4, 5, 6, 7, 8, 9, 10, 11, 12, 13, 14, 15, 16]) (va_runV (own := "QuakeServer$Entities") (C := "QuakeServer$Entities") (As := [.int (a2)]) (rest := [.int (r5), .int (if 0 ≤ (r1 - r3) then (r1 - r3) else 0 - (r1 - r3))]) ⟨hx, hb, hml, hown, hg⟩ (c_E_sizeUsed l dC dI h c H.size u6 (a2) r7 u8 hX) (cwV 1 hg (qs_gV t_539 t_541 tp_11 t_2 t_542) rfl rfl rfl (by decide +kernel) ⟨Nat.le_of_ble_eq_true rfl, Nat.le_of_ble_eq_true rfl⟩) ⟨qs_blind, va_recv hK hP (ci := 0) (q0 := 1) rfl rfl, fun U hU hW => ⟨rfl, by rw [hU], by rw [hU]; exact hP, va_K.moved hW.alike hK, hD.weaken (fun _ _ _ _ => trivial), hNs.warm hW⟩⟩ rfl rfl hl.1 rfl (lv_room (Nat.le_of_ble_eq_true rfl)) d_E_boxesOverlap_27 ⟨Nat.le_of_ble_eq_true rfl, Nat.le_of_ble_eq_true rfl⟩) rfl hP hD hS hA (fun H locs hP hD hS => ?_)
  refine lv_iadd hx hb d_E_boxesOverlap_30 ?_
  refine lv_icmp_ge (tgt := 38) hx hb d_E_boxesOverlap_31 (by decide) (fun c9 => ?_) (fun c9 => ?_)
  · have hF := qs_pos c9 hF
    refine lv_iconst (v := 0) hx hb d_E_boxesOverlap_38 (by decide) ?_
    obtain ⟨h8, h9⟩ := qs_ret hF
    exact W.zret (ty := .boolean) (v := 0) hx hb hr rfl (fun t ht hW => ⟨⟨0, u8, rfl, ⟨h8, h9⟩, by rw [ht]; exact hP, va_K.moved hW.alike hK, hD⟩, hS.F ht⟩) hS.2.2 d_E_boxesOverlap_39
  · have hF := qs_neg c9 hF
    refine lv_iconst (v := 1) hx hb d_E_boxesOverlap_34 (by decide) ?_
    refine lv_goto (tgt := 39) hx hb d_E_boxesOverlap_35 (by decide) ?_
    obtain ⟨h8, h9⟩ := qs_ret hF
    exact W.zret (ty := .boolean) (v := 1) hx hb hr rfl (fun t ht hW => ⟨⟨1, u8, rfl, ⟨h8, h9⟩, by rw [ht]; exact hP, va_K.moved hW.alike hK, hD⟩, hS.F ht⟩) hS.2.2 d_E_boxesOverlap_39
end
section
theorem d_W_add_0 : decode b_W_add 0 = .ok (.aload_n 0, 1) := by decide +kernel
theorem d_W_add_1 : decode b_W_add 1 = .ok (.getfield 9, 3) := by decide +kernel
theorem d_W_add_4 : decode b_W_add 4 = .ok (.aload_n 0, 1) := by decide +kernel
theorem d_W_add_5 : decode b_W_add 5 = .ok (.getfield 18, 3) := by decide +kernel
theorem d_W_add_8 : decode b_W_add 8 = .ok (.iconst 2, 1) := by decide +kernel
theorem d_W_add_9 : decode b_W_add 9 = .ok (.imul, 1) := by decide +kernel
theorem d_W_add_10 : decode b_W_add 10 = .ok (.iconst 0, 1) := by decide +kernel
theorem d_W_add_11 : decode b_W_add 11 = .ok (.iadd, 1) := by decide +kernel
theorem d_W_add_12 : decode b_W_add 12 = .ok (.iload_n 1, 1) := by decide +kernel
theorem d_W_add_13 : decode b_W_add 13 = .ok (.bipush 8, 2) := by decide +kernel
theorem d_W_add_15 : decode b_W_add 15 = .ok (.imul, 1) := by decide +kernel
theorem d_W_add_16 : decode b_W_add 16 = .ok (.iastore, 1) := by decide +kernel
theorem d_W_add_17 : decode b_W_add 17 = .ok (.aload_n 0, 1) := by decide +kernel
theorem d_W_add_18 : decode b_W_add 18 = .ok (.getfield 9, 3) := by decide +kernel
theorem d_W_add_21 : decode b_W_add 21 = .ok (.aload_n 0, 1) := by decide +kernel
theorem d_W_add_22 : decode b_W_add 22 = .ok (.getfield 18, 3) := by decide +kernel
theorem d_W_add_25 : decode b_W_add 25 = .ok (.iconst 2, 1) := by decide +kernel
theorem d_W_add_26 : decode b_W_add 26 = .ok (.imul, 1) := by decide +kernel
theorem d_W_add_27 : decode b_W_add 27 = .ok (.iconst 1, 1) := by decide +kernel
theorem d_W_add_28 : decode b_W_add 28 = .ok (.iadd, 1) := by decide +kernel
theorem d_W_add_29 : decode b_W_add 29 = .ok (.iload_n 2, 1) := by decide +kernel
theorem d_W_add_30 : decode b_W_add 30 = .ok (.bipush 8, 2) := by decide +kernel
theorem d_W_add_32 : decode b_W_add 32 = .ok (.imul, 1) := by decide +kernel
theorem d_W_add_33 : decode b_W_add 33 = .ok (.iastore, 1) := by decide +kernel
theorem d_W_add_34 : decode b_W_add 34 = .ok (.aload_n 0, 1) := by decide +kernel
theorem d_W_add_35 : decode b_W_add 35 = .ok (.getfield 15, 3) := by decide +kernel
theorem d_W_add_38 : decode b_W_add 38 = .ok (.aload_n 0, 1) := by decide +kernel
theorem d_W_add_39 : decode b_W_add 39 = .ok (.getfield 18, 3) := by decide +kernel
theorem d_W_add_42 : decode b_W_add 42 = .ok (.iconst 2, 1) := by decide +kernel
theorem d_W_add_43 : decode b_W_add 43 = .ok (.imul, 1) := by decide +kernel
theorem d_W_add_44 : decode b_W_add 44 = .ok (.iconst 0, 1) := by decide +kernel
theorem d_W_add_45 : decode b_W_add 45 = .ok (.iadd, 1) := by decide +kernel
theorem d_W_add_46 : decode b_W_add 46 = .ok (.iload_n 3, 1) := by decide +kernel
theorem d_W_add_47 : decode b_W_add 47 = .ok (.bipush 8, 2) := by decide +kernel
theorem d_W_add_49 : decode b_W_add 49 = .ok (.imul, 1) := by decide +kernel
theorem d_W_add_50 : decode b_W_add 50 = .ok (.iastore, 1) := by decide +kernel
theorem d_W_add_51 : decode b_W_add 51 = .ok (.aload_n 0, 1) := by decide +kernel
theorem d_W_add_52 : decode b_W_add 52 = .ok (.getfield 15, 3) := by decide +kernel
theorem d_W_add_55 : decode b_W_add 55 = .ok (.aload_n 0, 1) := by decide +kernel
theorem d_W_add_56 : decode b_W_add 56 = .ok (.getfield 18, 3) := by decide +kernel
theorem d_W_add_59 : decode b_W_add 59 = .ok (.iconst 2, 1) := by decide +kernel
theorem d_W_add_60 : decode b_W_add 60 = .ok (.imul, 1) := by decide +kernel
theorem d_W_add_61 : decode b_W_add 61 = .ok (.iconst 1, 1) := by decide +kernel
theorem d_W_add_62 : decode b_W_add 62 = .ok (.iadd, 1) := by decide +kernel
theorem d_W_add_63 : decode b_W_add 63 = .ok (.iload 4, 2) := by decide +kernel
theorem d_W_add_65 : decode b_W_add 65 = .ok (.bipush 8, 2) := by decide +kernel
theorem d_W_add_67 : decode b_W_add 67 = .ok (.imul, 1) := by decide +kernel
theorem d_W_add_68 : decode b_W_add 68 = .ok (.iastore, 1) := by decide +kernel
theorem d_W_add_69 : decode b_W_add 69 = .ok (.aload_n 0, 1) := by decide +kernel
theorem d_W_add_70 : decode b_W_add 70 = .ok (.dup, 1) := by decide +kernel
theorem d_W_add_71 : decode b_W_add 71 = .ok (.getfield 18, 3) := by decide +kernel
theorem d_W_add_74 : decode b_W_add 74 = .ok (.iconst 1, 1) := by decide +kernel
theorem d_W_add_75 : decode b_W_add 75 = .ok (.iadd, 1) := by decide +kernel
theorem d_W_add_76 : decode b_W_add 76 = .ok (.putfield 18, 3) := by decide +kernel
theorem d_W_add_79 : decode b_W_add 79 = .ok (.aload_n 0, 1) := by decide +kernel
theorem d_W_add_80 : decode b_W_add 80 = .ok (.getfield 18, 3) := by decide +kernel
theorem d_W_add_83 : decode b_W_add 83 = .ok (.iconst 1, 1) := by decide +kernel
theorem d_W_add_84 : decode b_W_add 84 = .ok (.isub, 1) := by decide +kernel
theorem d_W_add_85 : decode b_W_add 85 = .ok (.ireturn, 1) := by decide +kernel
def f_W_add (g : Sg) (a1 : Int32) (a2 : Int32) (a3 : Int32) (a4 : Int32) : Option (Int32 × Sg) := (qs_in (((g 20 0) * 2) + 0) 12 (qs_st (qs_a g 9 (((g 20 0) * 2) + 0).toNatClampNeg (a1 * 8)) fun u2 => (qs_in (((u2 20 0) * 2) + 1) 12 (qs_st (qs_a u2 9 (((u2 20 0) * 2) + 1).toNatClampNeg (a2 * 8)) fun u4 => (qs_in (((u4 20 0) * 2) + 0) 12 (qs_st (qs_a u4 10 (((u4 20 0) * 2) + 0).toNatClampNeg (a3 * 8)) fun u6 => (qs_in (((u6 20 0) * 2) + 1) 12 (qs_st (qs_a u6 10 (((u6 20 0) * 2) + 1).toNatClampNeg (a4 * 8)) fun u8 => (qs_st (qs_i u8 20 ((u8 20 0) + 1)) fun u9 => (some ((u9 20 0) - 1, u9)))))))))))
set_option maxHeartbeats 4000000 in
set_option maxRecDepth 100000 in
theorem c_W_add (l : Launch) (dC : Nat → ClassId) (dI : Nat → Nat → Nat) (h : Nat → Nat) (c : Nat → ClassId) (sz : Nat) (g : Sg) (a1 : Int32) (a2 : Int32) (a3 : Int32) (a4 : Int32) (r0 : Int32) (u0 : Sg) (hF : f_W_add g a1 a2 a3 a4 = some (r0, u0)) : Met l y_W_add (qs_ws y_W_add b_W_add 5 (some .int)) ({ frames := 0, cells := 0, slots := 0, locals := 0 } : Room) (va_Pc ([.ref (h 2), .int a1, .int a2, .int a3, .int a4] : List Value) (fun U => U.heap.size = sz ∧ va_P (dC, dI) vwCl (qs_W h c g) U.heap ∧ va_K (dC, dI) vwCl (qs_T c) U ∧ va_D (fun _ => True) (qs_W h c g) ∧ qs_N U)) (va_Qi (fun (r : Int32) (u : Sg) => r = r0 ∧ u = u0) (qs_at dC dI h c (va_A (qs_W h c g) sz)) (va_A (qs_W h c g) sz)) 0 0 (va_A (qs_W h c g) sz) := by
  refine Met.ofW (cc := b_W_add) (maxL := 5) (ret := (some .int)) (by decide +kernel) rfl ?_
  intro p e s m args below meth cd s₁ B hml hv
  obtain ⟨rfl, hsz, hP, hK, hD0, hNs⟩ := hv
  have hx := B.exec
  have hb := B.bytes
  have hr := B.returns
  have hts := atoms_spec (ws := (qs_ws y_W_add b_W_add 5 (some .int))) B.pre
  have hg : ∀ w ∈ qs_gt, w.before _ s = true := fun w h => hts w (List.mem_cons_of_mem _ h)
  have hown : s.vm.findClass R_W = some m.cls := findClass_of_methodNamed B.named
  have hlocks := B.notSynchronized
  subst hsz
  have hD := hD0.self (sz := s.heap.size)
  generalize hAe : va_A (qs_W h c g) s.heap.size = A at hD ⊢
  have hA : ∀ q : Nat, s.heap.size ≤ q → A q := fun q h => by rw [← hAe]; exact Or.inr h
  have hS : va_S A s.heap s.heap [] := va_S.rf
  have hl := lv_entry ([.ref (h 2), .int a1, .int a2, .int a3, .int a4] : List Value) (n := 5) (Nat.le_of_ble_eq_true rfl)
  rw [lg_entry_eq]
  generalize (lg_sl ([.ref (h 2), .int a1, .int a2, .int a3, .int a4] : List Value) ++ List.replicate (5 - (lg_sl ([.ref (h 2), .int a1, .int a2, .int a3, .int a4] : List Value)).length) Slot.unset).toArray = ls at hl ⊢
  have hl : lv_has ls 5 [(0, .ref (h 2)), (1, .int (a1)), (2, .int (a2)), (3, .int (a3)), (4, .int (a4))] := hl
  unfold f_W_add at hF
  obtain ⟨H, hHe⟩ : ∃ H, H = s.heap := ⟨_, rfl⟩
  obtain ⟨locs, hLe⟩ : ∃ L : List Loc, L = [] := ⟨_, rfl⟩
  rw [← hHe] at hP ⊢
  rw [← hLe]
  have hS : va_S A s.heap H locs := by rw [hHe, hLe]; exact hS
  refine lv_aload_n hx hb d_W_add_0 rfl (lv_at hl 0 rfl) ?_
  refine va_get (D := (dC, dI)) (ci := 1) (v := .ref (h 9)) (C := R_W) (T := T_W) (N := 3) hx hb hg in_W hown hK hP 2 rfl rfl 0 (by decide) (hg _ t_45) (fun _ h9 => h9) rfl d_W_add_1 ?_
  refine lv_aload_n hx hb d_W_add_4 rfl (lv_at hl 0 rfl) ?_
  refine va_get (D := (dC, dI)) (ci := 1) (v := .int (g 20 0)) (C := R_W) (T := T_W) (N := 3) hx hb hg in_W hown hK hP 2 rfl rfl 2 (by decide) (hg _ t_47) (fun _ h9 => h9) rfl d_W_add_5 ?_
  refine lv_iconst (v := 2) hx hb d_W_add_8 (by decide) ?_
  refine lv_imul hx hb d_W_add_9 ?_
  refine lv_iconst (v := 0) hx hb d_W_add_10 (by decide) ?_
  refine lv_iadd hx hb d_W_add_11 ?_
  refine lv_iload_n hx hb d_W_add_12 rfl (lv_at hl 1 rfl) ?_
  refine lv_bipush (v := 8) hx hb d_W_add_13 (by decide) ?_
  refine lv_imul hx hb d_W_add_15 ?_
  obtain ⟨c1, hF⟩ := qs_in_some hF
  refine va_iast hx hb hK hP hD hS 9 2 rfl rfl c1 d_W_add_16 (fun H locs hP hD hS => ?_)
  obtain ⟨u2, hu2, hF⟩ := qs_st_some hF
  have hP : va_P (dC, dI) vwCl (qs_W h c u2) H := by rw [hu2]; exact hP
  have hD : va_D A (qs_W h c u2) := by rw [hu2]; exact hD
  clear hu2
  refine lv_aload_n hx hb d_W_add_17 rfl (lv_at hl 0 rfl) ?_
  refine va_get (D := (dC, dI)) (ci := 1) (v := .ref (h 9)) (C := R_W) (T := T_W) (N := 3) hx hb hg in_W hown hK hP 2 rfl rfl 0 (by decide) (hg _ t_45) (fun _ h9 => h9) rfl d_W_add_18 ?_
  refine lv_aload_n hx hb d_W_add_21 rfl (lv_at hl 0 rfl) ?_
  refine va_get (D := (dC, dI)) (ci := 1) (v := .int (u2 20 0)) (C := R_W) (T := T_W) (N := 3) hx hb hg in_W hown hK hP 2 rfl rfl 2 (by decide) (hg _ t_47) (fun _ h9 => h9) rfl d_W_add_22 ?_
  refine lv_iconst (v := 2) hx hb d_W_add_25 (by decide) ?_
  refine lv_imul hx hb d_W_add_26 ?_
  refine lv_iconst (v := 1) hx hb d_W_add_27 (by decide) ?_
  refine lv_iadd hx hb d_W_add_28 ?_
  refine lv_iload_n hx hb d_W_add_29 rfl (lv_at hl 2 rfl) ?_
  refine lv_bipush (v := 8) hx hb d_W_add_30 (by decide) ?_
  refine lv_imul hx hb d_W_add_32 ?_
  obtain ⟨c3, hF⟩ := qs_in_some hF
  refine va_iast hx hb hK hP hD hS 9 2 rfl rfl c3 d_W_add_33 (fun H locs hP hD hS => ?_)
  obtain ⟨u4, hu4, hF⟩ := qs_st_some hF
  have hP : va_P (dC, dI) vwCl (qs_W h c u4) H := by rw [hu4]; exact hP
  have hD : va_D A (qs_W h c u4) := by rw [hu4]; exact hD
  clear hu4
  refine lv_aload_n hx hb d_W_add_34 rfl (lv_at hl 0 rfl) ?_
  refine va_get (D := (dC, dI)) (ci := 1) (v := .ref (h 10)) (C := R_W) (T := T_W) (N := 3) hx hb hg in_W hown hK hP 2 rfl rfl 1 (by decide) (hg _ t_46) (fun _ h9 => h9) rfl d_W_add_35 ?_
  refine lv_aload_n hx hb d_W_add_38 rfl (lv_at hl 0 rfl) ?_
  refine va_get (D := (dC, dI)) (ci := 1) (v := .int (u4 20 0)) (C := R_W) (T := T_W) (N := 3) hx hb hg in_W hown hK hP 2 rfl rfl 2 (by decide) (hg _ t_47) (fun _ h9 => h9) rfl d_W_add_39 ?_
  refine lv_iconst (v := 2) hx hb d_W_add_42 (by decide) ?_
  refine lv_imul hx hb d_W_add_43 ?_
  refine lv_iconst (v := 0) hx hb d_W_add_44 (by decide) ?_
  refine lv_iadd hx hb d_W_add_45 ?_
  refine lv_iload_n hx hb d_W_add_46 rfl (lv_at hl 3 rfl) ?_
  refine lv_bipush (v := 8) hx hb d_W_add_47 (by decide) ?_
  refine lv_imul hx hb d_W_add_49 ?_
  obtain ⟨c5, hF⟩ := qs_in_some hF
  refine va_iast hx hb hK hP hD hS 10 3 rfl rfl c5 d_W_add_50 (fun H locs hP hD hS => ?_)
  obtain ⟨u6, hu6, hF⟩ := qs_st_some hF
  have hP : va_P (dC, dI) vwCl (qs_W h c u6) H := by rw [hu6]; exact hP
  have hD : va_D A (qs_W h c u6) := by rw [hu6]; exact hD
  clear hu6
  refine lv_aload_n hx hb d_W_add_51 rfl (lv_at hl 0 rfl) ?_
  refine va_get (D := (dC, dI)) (ci := 1) (v := .ref (h 10)) (C := R_W) (T := T_W) (N := 3) hx hb hg in_W hown hK hP 2 rfl rfl 1 (by decide) (hg _ t_46) (fun _ h9 => h9) rfl d_W_add_52 ?_
  refine lv_aload_n hx hb d_W_add_55 rfl (lv_at hl 0 rfl) ?_
  refine va_get (D := (dC, dI)) (ci := 1) (v := .int (u6 20 0)) (C := R_W) (T := T_W) (N := 3) hx hb hg in_W hown hK hP 2 rfl rfl 2 (by decide) (hg _ t_47) (fun _ h9 => h9) rfl d_W_add_56 ?_
  refine lv_iconst (v := 2) hx hb d_W_add_59 (by decide) ?_
  refine lv_imul hx hb d_W_add_60 ?_
  refine lv_iconst (v := 1) hx hb d_W_add_61 (by decide) ?_
  refine lv_iadd hx hb d_W_add_62 ?_
  refine lv_iload hx hb d_W_add_63 (lv_at hl 4 rfl) ?_
  refine lv_bipush (v := 8) hx hb d_W_add_65 (by decide) ?_
  refine lv_imul hx hb d_W_add_67 ?_
  obtain ⟨c7, hF⟩ := qs_in_some hF
  refine va_iast hx hb hK hP hD hS 10 3 rfl rfl c7 d_W_add_68 (fun H locs hP hD hS => ?_)
  obtain ⟨u8, hu8, hF⟩ := qs_st_some hF
  have hP : va_P (dC, dI) vwCl (qs_W h c u8) H := by rw [hu8]; exact hP
  have hD : va_D A (qs_W h c u8) := by rw [hu8]; exact hD
  clear hu8
  refine lv_aload_n hx hb d_W_add_69 rfl (lv_at hl 0 rfl) ?_
  refine lv_dup hx hb d_W_add_70 rfl ?_
  refine va_get (D := (dC, dI)) (ci := 1) (v := .int (u8 20 0)) (C := R_W) (T := T_W) (N := 3) hx hb hg in_W hown hK hP 2 rfl rfl 2 (by decide) (hg _ t_47) (fun _ h9 => h9) rfl d_W_add_71 ?_
  refine lv_iconst (v := 1) hx hb d_W_add_74 (by decide) ?_
  refine lv_iadd hx hb d_W_add_75 ?_
  refine va_put (D := (dC, dI)) (ci := 1) (v := .int ((u8 20 0) + 1)) (ty := .int) (C := R_W) (T := T_W) (N := 3) hx hb hg in_W ty_W ty_W_ok nm_W hown hK hP hD hS 2 rfl rfl 2 (by decide) (hg _ t_47) (fun _ h9 => h9) rfl (by decide +kernel) rfl rfl (Nat.le_of_ble_eq_true rfl) d_W_add_76 (fun H locs hP hD hS => ?_)
  obtain ⟨u9, hu9, hF⟩ := qs_st_some hF
  have hP : va_P (dC, dI) vwCl (qs_W h c u9) H := by rw [hu9]; exact hP
  have hD : va_D A (qs_W h c u9) := by rw [hu9]; exact hD
  clear hu9
  refine lv_aload_n hx hb d_W_add_79 rfl (lv_at hl 0 rfl) ?_
  refine va_get (D := (dC, dI)) (ci := 1) (v := .int (u9 20 0)) (C := R_W) (T := T_W) (N := 3) hx hb hg in_W hown hK hP 2 rfl rfl 2 (by decide) (hg _ t_47) (fun _ h9 => h9) rfl d_W_add_80 ?_
  refine lv_iconst (v := 1) hx hb d_W_add_83 (by decide) ?_
  refine lv_isub hx hb d_W_add_84 ?_
  obtain ⟨h8, h9⟩ := qs_ret hF
  exact W.iret (v := (u9 20 0) - 1) hx hb hr (fun t ht hW => ⟨⟨((u9 20 0) - 1), u9, rfl, ⟨h8, h9⟩, by rw [ht]; exact hP, va_K.moved hW.alike hK, hD⟩, hS.F ht⟩) hS.2.2 d_W_add_85

theorem d_W_low_0 : decode b_W_low 0 = .ok (.aload_n 0, 1) := by decide +kernel
theorem d_W_low_1 : decode b_W_low 1 = .ok (.getfield 9, 3) := by decide +kernel
theorem d_W_low_4 : decode b_W_low 4 = .ok (.iload_n 1, 1) := by decide +kernel
theorem d_W_low_5 : decode b_W_low 5 = .ok (.iconst 2, 1) := by decide +kernel
theorem d_W_low_6 : decode b_W_low 6 = .ok (.imul, 1) := by decide +kernel
theorem d_W_low_7 : decode b_W_low 7 = .ok (.iload_n 2, 1) := by decide +kernel
theorem d_W_low_8 : decode b_W_low 8 = .ok (.iadd, 1) := by decide +kernel
theorem d_W_low_9 : decode b_W_low 9 = .ok (.iaload, 1) := by decide +kernel
theorem d_W_low_10 : decode b_W_low 10 = .ok (.ireturn, 1) := by decide +kernel
def f_W_low (g : Sg) (a1 : Int32) (a2 : Int32) : Option (Int32 × Sg) := (qs_in ((a1 * 2) + a2) 12 (some (g 9 ((a1 * 2) + a2).toNatClampNeg, g)))
set_option maxHeartbeats 4000000 in
set_option maxRecDepth 100000 in
theorem c_W_low (l : Launch) (dC : Nat → ClassId) (dI : Nat → Nat → Nat) (h : Nat → Nat) (c : Nat → ClassId) (sz : Nat) (g : Sg) (a1 : Int32) (a2 : Int32) (r0 : Int32) (u0 : Sg) (hF : f_W_low g a1 a2 = some (r0, u0)) : Met l y_W_low (qs_ws y_W_low b_W_low 3 (some .int)) ({ frames := 0, cells := 0, slots := 0, locals := 0 } : Room) (va_Pc ([.ref (h 2), .int a1, .int a2] : List Value) (fun U => U.heap.size = sz ∧ va_P (dC, dI) vwCl (qs_W h c g) U.heap ∧ va_K (dC, dI) vwCl (qs_T c) U ∧ va_D (fun _ => True) (qs_W h c g) ∧ qs_N U)) (va_Qi (fun (r : Int32) (u : Sg) => r = r0 ∧ u = u0) (qs_at dC dI h c (va_A (qs_W h c g) sz)) (va_A (qs_W h c g) sz)) 0 0 (va_A (qs_W h c g) sz) := by
  refine Met.ofW (cc := b_W_low) (maxL := 3) (ret := (some .int)) (by decide +kernel) rfl ?_
  intro p e s m args below meth cd s₁ B hml hv
  obtain ⟨rfl, hsz, hP, hK, hD0, hNs⟩ := hv
  have hx := B.exec
  have hb := B.bytes
  have hr := B.returns
  have hts := atoms_spec (ws := (qs_ws y_W_low b_W_low 3 (some .int))) B.pre
  have hg : ∀ w ∈ qs_gt, w.before _ s = true := fun w h => hts w (List.mem_cons_of_mem _ h)
  have hown : s.vm.findClass R_W = some m.cls := findClass_of_methodNamed B.named
  have hlocks := B.notSynchronized
  subst hsz
  have hD := hD0.self (sz := s.heap.size)
  generalize hAe : va_A (qs_W h c g) s.heap.size = A at hD ⊢
  have hA : ∀ q : Nat, s.heap.size ≤ q → A q := fun q h => by rw [← hAe]; exact Or.inr h
  have hS : va_S A s.heap s.heap [] := va_S.rf
  have hl := lv_entry ([.ref (h 2), .int a1, .int a2] : List Value) (n := 3) (Nat.le_of_ble_eq_true rfl)
  rw [lg_entry_eq]
  generalize (lg_sl ([.ref (h 2), .int a1, .int a2] : List Value) ++ List.replicate (3 - (lg_sl ([.ref (h 2), .int a1, .int a2] : List Value)).length) Slot.unset).toArray = ls at hl ⊢
  have hl : lv_has ls 3 [(0, .ref (h 2)), (1, .int (a1)), (2, .int (a2))] := hl
  unfold f_W_low at hF
  obtain ⟨H, hHe⟩ : ∃ H, H = s.heap := ⟨_, rfl⟩
  obtain ⟨locs, hLe⟩ : ∃ L : List Loc, L = [] := ⟨_, rfl⟩
  rw [← hHe] at hP ⊢
  rw [← hLe]
  have hS : va_S A s.heap H locs := by rw [hHe, hLe]; exact hS
  refine lv_aload_n hx hb d_W_low_0 rfl (lv_at hl 0 rfl) ?_
  refine va_get (D := (dC, dI)) (ci := 1) (v := .ref (h 9)) (C := R_W) (T := T_W) (N := 3) hx hb hg in_W hown hK hP 2 rfl rfl 0 (by decide) (hg _ t_45) (fun _ h9 => h9) rfl d_W_low_1 ?_
  refine lv_iload_n hx hb d_W_low_4 rfl (lv_at hl 1 rfl) ?_
  refine lv_iconst (v := 2) hx hb d_W_low_5 (by decide) ?_
  refine lv_imul hx hb d_W_low_6 ?_
  refine lv_iload_n hx hb d_W_low_7 rfl (lv_at hl 2 rfl) ?_
  refine lv_iadd hx hb d_W_low_8 ?_
  obtain ⟨c1, hF⟩ := qs_in_some hF
  refine va_iald hx hb hK hP 9 2 rfl rfl c1 d_W_low_9 ?_
  obtain ⟨h8, h9⟩ := qs_ret hF
  exact W.iret (v := g 9 ((a1 * 2) + a2).toNatClampNeg) hx hb hr (fun t ht hW => ⟨⟨(g 9 ((a1 * 2) + a2).toNatClampNeg), g, rfl, ⟨h8, h9⟩, by rw [ht]; exact hP, va_K.moved hW.alike hK, hD⟩, hS.F ht⟩) hS.2.2 d_W_low_10

theorem d_W_high_0 : decode b_W_high 0 = .ok (.aload_n 0, 1) := by decide +kernel
theorem d_W_high_1 : decode b_W_high 1 = .ok (.getfield 15, 3) := by decide +kernel
theorem d_W_high_4 : decode b_W_high 4 = .ok (.iload_n 1, 1) := by decide +kernel
theorem d_W_high_5 : decode b_W_high 5 = .ok (.iconst 2, 1) := by decide +kernel
theorem d_W_high_6 : decode b_W_high 6 = .ok (.imul, 1) := by decide +kernel
theorem d_W_high_7 : decode b_W_high 7 = .ok (.iload_n 2, 1) := by decide +kernel
theorem d_W_high_8 : decode b_W_high 8 = .ok (.iadd, 1) := by decide +kernel
theorem d_W_high_9 : decode b_W_high 9 = .ok (.iaload, 1) := by decide +kernel
theorem d_W_high_10 : decode b_W_high 10 = .ok (.ireturn, 1) := by decide +kernel
def f_W_high (g : Sg) (a1 : Int32) (a2 : Int32) : Option (Int32 × Sg) := (qs_in ((a1 * 2) + a2) 12 (some (g 10 ((a1 * 2) + a2).toNatClampNeg, g)))
set_option maxHeartbeats 4000000 in
set_option maxRecDepth 100000 in
theorem c_W_high (l : Launch) (dC : Nat → ClassId) (dI : Nat → Nat → Nat) (h : Nat → Nat) (c : Nat → ClassId) (sz : Nat) (g : Sg) (a1 : Int32) (a2 : Int32) (r0 : Int32) (u0 : Sg) (hF : f_W_high g a1 a2 = some (r0, u0)) : Met l y_W_high (qs_ws y_W_high b_W_high 3 (some .int)) ({ frames := 0, cells := 0, slots := 0, locals := 0 } : Room) (va_Pc ([.ref (h 2), .int a1, .int a2] : List Value) (fun U => U.heap.size = sz ∧ va_P (dC, dI) vwCl (qs_W h c g) U.heap ∧ va_K (dC, dI) vwCl (qs_T c) U ∧ va_D (fun _ => True) (qs_W h c g) ∧ qs_N U)) (va_Qi (fun (r : Int32) (u : Sg) => r = r0 ∧ u = u0) (qs_at dC dI h c (va_A (qs_W h c g) sz)) (va_A (qs_W h c g) sz)) 0 0 (va_A (qs_W h c g) sz) := by
  refine Met.ofW (cc := b_W_high) (maxL := 3) (ret := (some .int)) (by decide +kernel) rfl ?_
  intro p e s m args below meth cd s₁ B hml hv
  obtain ⟨rfl, hsz, hP, hK, hD0, hNs⟩ := hv
  have hx := B.exec
  have hb := B.bytes
  have hr := B.returns
  have hts := atoms_spec (ws := (qs_ws y_W_high b_W_high 3 (some .int))) B.pre
  have hg : ∀ w ∈ qs_gt, w.before _ s = true := fun w h => hts w (List.mem_cons_of_mem _ h)
  have hown : s.vm.findClass R_W = some m.cls := findClass_of_methodNamed B.named
  have hlocks := B.notSynchronized
  subst hsz
  have hD := hD0.self (sz := s.heap.size)
  generalize hAe : va_A (qs_W h c g) s.heap.size = A at hD ⊢
  have hA : ∀ q : Nat, s.heap.size ≤ q → A q := fun q h => by rw [← hAe]; exact Or.inr h
  have hS : va_S A s.heap s.heap [] := va_S.rf
  have hl := lv_entry ([.ref (h 2), .int a1, .int a2] : List Value) (n := 3) (Nat.le_of_ble_eq_true rfl)
  rw [lg_entry_eq]
  generalize (lg_sl ([.ref (h 2), .int a1, .int a2] : List Value) ++ List.replicate (3 - (lg_sl ([.ref (h 2), .int a1, .int a2] : List Value)).length) Slot.unset).toArray = ls at hl ⊢
  have hl : lv_has ls 3 [(0, .ref (h 2)), (1, .int (a1)), (2, .int (a2))] := hl
  unfold f_W_high at hF
  obtain ⟨H, hHe⟩ : ∃ H, H = s.heap := ⟨_, rfl⟩
  obtain ⟨locs, hLe⟩ : ∃ L : List Loc, L = [] := ⟨_, rfl⟩
  rw [← hHe] at hP ⊢
  rw [← hLe]
  have hS : va_S A s.heap H locs := by rw [hHe, hLe]; exact hS
  refine lv_aload_n hx hb d_W_high_0 rfl (lv_at hl 0 rfl) ?_
  refine va_get (D := (dC, dI)) (ci := 1) (v := .ref (h 10)) (C := R_W) (T := T_W) (N := 3) hx hb hg in_W hown hK hP 2 rfl rfl 1 (by decide) (hg _ t_46) (fun _ h9 => h9) rfl d_W_high_1 ?_
  refine lv_iload_n hx hb d_W_high_4 rfl (lv_at hl 1 rfl) ?_
  refine lv_iconst (v := 2) hx hb d_W_high_5 (by decide) ?_
  refine lv_imul hx hb d_W_high_6 ?_
  refine lv_iload_n hx hb d_W_high_7 rfl (lv_at hl 2 rfl) ?_
  refine lv_iadd hx hb d_W_high_8 ?_
  obtain ⟨c1, hF⟩ := qs_in_some hF
  refine va_iald hx hb hK hP 10 3 rfl rfl c1 d_W_high_9 ?_
  obtain ⟨h8, h9⟩ := qs_ret hF
  exact W.iret (v := g 10 ((a1 * 2) + a2).toNatClampNeg) hx hb hr (fun t ht hW => ⟨⟨(g 10 ((a1 * 2) + a2).toNatClampNeg), g, rfl, ⟨h8, h9⟩, by rw [ht]; exact hP, va_K.moved hW.alike hK, hD⟩, hS.F ht⟩) hS.2.2 d_W_high_10

theorem d_P_length_0 : decode b_P_length 0 = .ok (.aload_n 0, 1) := by decide +kernel
theorem d_P_length_1 : decode b_P_length 1 = .ok (.getfield 15, 3) := by decide +kernel
theorem d_P_length_4 : decode b_P_length 4 = .ok (.iload_n 1, 1) := by decide +kernel
theorem d_P_length_5 : decode b_P_length 5 = .ok (.iaload, 1) := by decide +kernel
theorem d_P_length_6 : decode b_P_length 6 = .ok (.ireturn, 1) := by decide +kernel
def f_P_length (g : Sg) (a1 : Int32) : Option (Int32 × Sg) := (qs_in (a1) 6 (some (g 12 a1.toNatClampNeg, g)))
set_option maxHeartbeats 4000000 in
set_option maxRecDepth 100000 in
theorem c_P_length (l : Launch) (dC : Nat → ClassId) (dI : Nat → Nat → Nat) (h : Nat → Nat) (c : Nat → ClassId) (sz : Nat) (g : Sg) (a1 : Int32) (r0 : Int32) (u0 : Sg) (hF : f_P_length g a1 = some (r0, u0)) : Met l y_P_length (qs_ws y_P_length b_P_length 2 (some .int)) ({ frames := 0, cells := 0, slots := 0, locals := 0 } : Room) (va_Pc ([.ref (h 3), .int a1] : List Value) (fun U => U.heap.size = sz ∧ va_P (dC, dI) vwCl (qs_W h c g) U.heap ∧ va_K (dC, dI) vwCl (qs_T c) U ∧ va_D (fun _ => True) (qs_W h c g) ∧ qs_N U)) (va_Qi (fun (r : Int32) (u : Sg) => r = r0 ∧ u = u0) (qs_at dC dI h c (va_A (qs_W h c g) sz)) (va_A (qs_W h c g) sz)) 0 0 (va_A (qs_W h c g) sz) := by
  refine Met.ofW (cc := b_P_length) (maxL := 2) (ret := (some .int)) (by decide +kernel) rfl ?_
  intro p e s m args below meth cd s₁ B hml hv
  obtain ⟨rfl, hsz, hP, hK, hD0, hNs⟩ := hv
  have hx := B.exec
  have hb := B.bytes
  have hr := B.returns
  have hts := atoms_spec (ws := (qs_ws y_P_length b_P_length 2 (some .int))) B.pre
  have hg : ∀ w ∈ qs_gt, w.before _ s = true := fun w h => hts w (List.mem_cons_of_mem _ h)
  have hown : s.vm.findClass R_P = some m.cls := findClass_of_methodNamed B.named
  have hlocks := B.notSynchronized
  subst hsz
  have hD := hD0.self (sz := s.heap.size)
  generalize hAe : va_A (qs_W h c g) s.heap.size = A at hD ⊢
  have hA : ∀ q : Nat, s.heap.size ≤ q → A q := fun q h => by rw [← hAe]; exact Or.inr h
  have hS : va_S A s.heap s.heap [] := va_S.rf
  have hl := lv_entry ([.ref (h 3), .int a1] : List Value) (n := 2) (Nat.le_of_ble_eq_true rfl)
  rw [lg_entry_eq]
  generalize (lg_sl ([.ref (h 3), .int a1] : List Value) ++ List.replicate (2 - (lg_sl ([.ref (h 3), .int a1] : List Value)).length) Slot.unset).toArray = ls at hl ⊢
  have hl : lv_has ls 2 [(0, .ref (h 3)), (1, .int (a1))] := hl
  unfold f_P_length at hF
  obtain ⟨H, hHe⟩ : ∃ H, H = s.heap := ⟨_, rfl⟩
  obtain ⟨locs, hLe⟩ : ∃ L : List Loc, L = [] := ⟨_, rfl⟩
  rw [← hHe] at hP ⊢
  rw [← hLe]
  have hS : va_S A s.heap H locs := by rw [hHe, hLe]; exact hS
  refine lv_aload_n hx hb d_P_length_0 rfl (lv_at hl 0 rfl) ?_
  refine va_get (D := (dC, dI)) (ci := 2) (v := .ref (h 12)) (C := R_P) (T := T_P) (N := 2) hx hb hg in_P hown hK hP 3 rfl rfl 1 (by decide) (hg _ t_65) (fun _ h9 => h9) rfl d_P_length_1 ?_
  refine lv_iload_n hx hb d_P_length_4 rfl (lv_at hl 1 rfl) ?_
  obtain ⟨c1, hF⟩ := qs_in_some hF
  refine va_iald hx hb hK hP 12 5 rfl rfl c1 d_P_length_5 ?_
  obtain ⟨h8, h9⟩ := qs_ret hF
  exact W.iret (v := g 12 a1.toNatClampNeg) hx hb hr (fun t ht hW => ⟨⟨(g 12 a1.toNatClampNeg), g, rfl, ⟨h8, h9⟩, by rw [ht]; exact hP, va_K.moved hW.alike hK, hD⟩, hS.F ht⟩) hS.2.2 d_P_length_6

theorem d_P_firstPart_0 : decode b_P_firstPart 0 = .ok (.iload_n 1, 1) := by decide +kernel
theorem d_P_firstPart_1 : decode b_P_firstPart 1 = .ok (.bipush 14, 2) := by decide +kernel
theorem d_P_firstPart_3 : decode b_P_firstPart 3 = .ok (.imul, 1) := by decide +kernel
theorem d_P_firstPart_4 : decode b_P_firstPart 4 = .ok (.iload_n 2, 1) := by decide +kernel
theorem d_P_firstPart_5 : decode b_P_firstPart 5 = .ok (.iadd, 1) := by decide +kernel
theorem d_P_firstPart_6 : decode b_P_firstPart 6 = .ok (.iconst 4, 1) := by decide +kernel
theorem d_P_firstPart_7 : decode b_P_firstPart 7 = .ok (.imul, 1) := by decide +kernel
theorem d_P_firstPart_8 : decode b_P_firstPart 8 = .ok (.ireturn, 1) := by decide +kernel
def f_P_firstPart (g : Sg) (a1 : Int32) (a2 : Int32) : Option (Int32 × Sg) := (some (((a1 * 14) + a2) * 4, g))
set_option maxHeartbeats 4000000 in
set_option maxRecDepth 100000 in
theorem c_P_firstPart (l : Launch) (dC : Nat → ClassId) (dI : Nat → Nat → Nat) (h : Nat → Nat) (c : Nat → ClassId) (sz : Nat) (g : Sg) (a1 : Int32) (a2 : Int32) (r0 : Int32) (u0 : Sg) (hF : f_P_firstPart g a1 a2 = some (r0, u0)) : Met l y_P_firstPart (qs_ws y_P_firstPart b_P_firstPart 3 (some .int)) ({ frames := 0, cells := 0, slots := 0, locals := 0 } : Room) (va_Pc ([.ref (h 3), .int a1, .int a2] : List Value) (fun U => U.heap.size = sz ∧ va_P (dC, dI) vwCl (qs_W h c g) U.heap ∧ va_K (dC, dI) vwCl (qs_T c) U ∧ va_D (fun _ => True) (qs_W h c g) ∧ qs_N U)) (va_Qi (fun (r : Int32) (u : Sg) => r = r0 ∧ u = u0) (qs_at dC dI h c (va_A (qs_W h c g) sz)) (va_A (qs_W h c g) sz)) 0 0 (va_A (qs_W h c g) sz) := by
  refine Met.ofW (cc := b_P_firstPart) (maxL := 3) (ret := (some .int)) (by decide +kernel) rfl ?_
  intro p e s m args below meth cd s₁ B hml hv
  obtain ⟨rfl, hsz, hP, hK, hD0, hNs⟩ := hv
  have hx := B.exec
  have hb := B.bytes
  have hr := B.returns
  have hts := atoms_spec (ws := (qs_ws y_P_firstPart b_P_firstPart 3 (some .int))) B.pre
  have hg : ∀ w ∈ qs_gt, w.before _ s = true := fun w h => hts w (List.mem_cons_of_mem _ h)
  have hown : s.vm.findClass R_P = some m.cls := findClass_of_methodNamed B.named
  have hlocks := B.notSynchronized
  subst hsz
  have hD := hD0.self (sz := s.heap.size)
  generalize hAe : va_A (qs_W h c g) s.heap.size = A at hD ⊢
  have hA : ∀ q : Nat, s.heap.size ≤ q → A q := fun q h => by rw [← hAe]; exact Or.inr h
  have hS : va_S A s.heap s.heap [] := va_S.rf
  have hl := lv_entry ([.ref (h 3), .int a1, .int a2] : List Value) (n := 3) (Nat.le_of_ble_eq_true rfl)
  rw [lg_entry_eq]
  generalize (lg_sl ([.ref (h 3), .int a1, .int a2] : List Value) ++ List.replicate (3 - (lg_sl ([.ref (h 3), .int a1, .int a2] : List Value)).length) Slot.unset).toArray = ls at hl ⊢
  have hl : lv_has ls 3 [(0, .ref (h 3)), (1, .int (a1)), (2, .int (a2))] := hl
  unfold f_P_firstPart at hF
  obtain ⟨H, hHe⟩ : ∃ H, H = s.heap := ⟨_, rfl⟩
  obtain ⟨locs, hLe⟩ : ∃ L : List Loc, L = [] := ⟨_, rfl⟩
  rw [← hHe] at hP ⊢
  rw [← hLe]
  have hS : va_S A s.heap H locs := by rw [hHe, hLe]; exact hS
  refine lv_iload_n hx hb d_P_firstPart_0 rfl (lv_at hl 1 rfl) ?_
  refine lv_bipush (v := 14) hx hb d_P_firstPart_1 (by decide) ?_
  refine lv_imul hx hb d_P_firstPart_3 ?_
  refine lv_iload_n hx hb d_P_firstPart_4 rfl (lv_at hl 2 rfl) ?_
  refine lv_iadd hx hb d_P_firstPart_5 ?_
  refine lv_iconst (v := 4) hx hb d_P_firstPart_6 (by decide) ?_
  refine lv_imul hx hb d_P_firstPart_7 ?_
  obtain ⟨h8, h9⟩ := qs_ret hF
  exact W.iret (v := ((a1 * 14) + a2) * 4) hx hb hr (fun t ht hW => ⟨⟨(((a1 * 14) + a2) * 4), g, rfl, ⟨h8, h9⟩, by rw [ht]; exact hP, va_K.moved hW.alike hK, hD⟩, hS.F ht⟩) hS.2.2 d_P_firstPart_8

theorem d_P_add_0 : decode b_P_add 0 = .ok (.aload_n 0, 1) := by decide +kernel
theorem d_P_add_1 : decode b_P_add 1 = .ok (.iload_n 1, 1) := by decide +kernel
theorem d_P_add_2 : decode b_P_add 2 = .ok (.aload_n 0, 1) := by decide +kernel
theorem d_P_add_3 : decode b_P_add 3 = .ok (.getfield 15, 3) := by decide +kernel
theorem d_P_add_6 : decode b_P_add 6 = .ok (.iload_n 1, 1) := by decide +kernel
theorem d_P_add_7 : decode b_P_add 7 = .ok (.iaload, 1) := by decide +kernel
theorem d_P_add_8 : decode b_P_add 8 = .ok (.invokevirtual 22, 3) := by decide +kernel
theorem d_P_add_11 : decode b_P_add 11 = .ok (.istore 6, 2) := by decide +kernel
theorem d_P_add_13 : decode b_P_add 13 = .ok (.aload_n 0, 1) := by decide +kernel
theorem d_P_add_14 : decode b_P_add 14 = .ok (.getfield 11, 3) := by decide +kernel
theorem d_P_add_17 : decode b_P_add 17 = .ok (.iload 6, 2) := by decide +kernel
theorem d_P_add_19 : decode b_P_add 19 = .ok (.iload_n 2, 1) := by decide +kernel
theorem d_P_add_20 : decode b_P_add 20 = .ok (.iastore, 1) := by decide +kernel
theorem d_P_add_21 : decode b_P_add 21 = .ok (.aload_n 0, 1) := by decide +kernel
theorem d_P_add_22 : decode b_P_add 22 = .ok (.getfield 11, 3) := by decide +kernel
theorem d_P_add_25 : decode b_P_add 25 = .ok (.iload 6, 2) := by decide +kernel
theorem d_P_add_27 : decode b_P_add 27 = .ok (.iconst 1, 1) := by decide +kernel
theorem d_P_add_28 : decode b_P_add 28 = .ok (.iadd, 1) := by decide +kernel
theorem d_P_add_29 : decode b_P_add 29 = .ok (.iload_n 3, 1) := by decide +kernel
theorem d_P_add_30 : decode b_P_add 30 = .ok (.iastore, 1) := by decide +kernel
theorem d_P_add_31 : decode b_P_add 31 = .ok (.aload_n 0, 1) := by decide +kernel
theorem d_P_add_32 : decode b_P_add 32 = .ok (.getfield 11, 3) := by decide +kernel
theorem d_P_add_35 : decode b_P_add 35 = .ok (.iload 6, 2) := by decide +kernel
theorem d_P_add_37 : decode b_P_add 37 = .ok (.iconst 2, 1) := by decide +kernel
theorem d_P_add_38 : decode b_P_add 38 = .ok (.iadd, 1) := by decide +kernel
theorem d_P_add_39 : decode b_P_add 39 = .ok (.iload 4, 2) := by decide +kernel
theorem d_P_add_41 : decode b_P_add 41 = .ok (.iastore, 1) := by decide +kernel
theorem d_P_add_42 : decode b_P_add 42 = .ok (.aload_n 0, 1) := by decide +kernel
theorem d_P_add_43 : decode b_P_add 43 = .ok (.getfield 11, 3) := by decide +kernel
theorem d_P_add_46 : decode b_P_add 46 = .ok (.iload 6, 2) := by decide +kernel
theorem d_P_add_48 : decode b_P_add 48 = .ok (.iconst 3, 1) := by decide +kernel
theorem d_P_add_49 : decode b_P_add 49 = .ok (.iadd, 1) := by decide +kernel
theorem d_P_add_50 : decode b_P_add 50 = .ok (.iload 5, 2) := by decide +kernel
theorem d_P_add_52 : decode b_P_add 52 = .ok (.iastore, 1) := by decide +kernel
theorem d_P_add_53 : decode b_P_add 53 = .ok (.aload_n 0, 1) := by decide +kernel
theorem d_P_add_54 : decode b_P_add 54 = .ok (.getfield 15, 3) := by decide +kernel
theorem d_P_add_57 : decode b_P_add 57 = .ok (.iload_n 1, 1) := by decide +kernel
theorem d_P_add_58 : decode b_P_add 58 = .ok (.dup2, 1) := by decide +kernel
theorem d_P_add_59 : decode b_P_add 59 = .ok (.iaload, 1) := by decide +kernel
theorem d_P_add_60 : decode b_P_add 60 = .ok (.iconst 1, 1) := by decide +kernel
theorem d_P_add_61 : decode b_P_add 61 = .ok (.iadd, 1) := by decide +kernel
theorem d_P_add_62 : decode b_P_add 62 = .ok (.iastore, 1) := by decide +kernel
theorem d_P_add_63 : decode b_P_add 63 = .ok (.aload_n 0, 1) := by decide +kernel
theorem d_P_add_64 : decode b_P_add 64 = .ok (.getfield 15, 3) := by decide +kernel
theorem d_P_add_67 : decode b_P_add 67 = .ok (.iload_n 1, 1) := by decide +kernel
theorem d_P_add_68 : decode b_P_add 68 = .ok (.iaload, 1) := by decide +kernel
theorem d_P_add_69 : decode b_P_add 69 = .ok (.ireturn, 1) := by decide +kernel
def f_P_add (g : Sg) (a1 : Int32) (a2 : Int32) (a3 : Int32) (a4 : Int32) (a5 : Int32) : Option (Int32 × Sg) := (qs_in (a1) 6 (qs_bn (f_P_firstPart g (a1) (g 12 a1.toNatClampNeg)) fun r2 u3 => (qs_in (r2) 336 (qs_st (qs_a u3 11 r2.toNatClampNeg (a2)) fun u5 => (qs_in (r2 + 1) 336 (qs_st (qs_a u5 11 (r2 + 1).toNatClampNeg (a3)) fun u7 => (qs_in (r2 + 2) 336 (qs_st (qs_a u7 11 (r2 + 2).toNatClampNeg (a4)) fun u9 => (qs_in (r2 + 3) 336 (qs_st (qs_a u9 11 (r2 + 3).toNatClampNeg (a5)) fun u11 => (qs_in (a1) 6 (qs_in (a1) 6 (qs_st (qs_a u11 12 a1.toNatClampNeg ((u11 12 a1.toNatClampNeg) + 1)) fun u14 => (qs_in (a1) 6 (some (u14 12 a1.toNatClampNeg, u14))))))))))))))))
set_option maxHeartbeats 4000000 in
set_option maxRecDepth 100000 in
theorem c_P_add (l : Launch) (dC : Nat → ClassId) (dI : Nat → Nat → Nat) (h : Nat → Nat) (c : Nat → ClassId) (sz : Nat) (g : Sg) (a1 : Int32) (a2 : Int32) (a3 : Int32) (a4 : Int32) (a5 : Int32) (r0 : Int32) (u0 : Sg) (hF : f_P_add g a1 a2 a3 a4 a5 = some (r0, u0)) : Met l y_P_add (qs_ws y_P_add b_P_add 7 (some .int)) ({ frames := 1, cells := 0, slots := 0, locals := 22 } : Room) (va_Pc ([.ref (h 3), .int a1, .int a2, .int a3, .int a4, .int a5] : List Value) (fun U => U.heap.size = sz ∧ va_P (dC, dI) vwCl (qs_W h c g) U.heap ∧ va_K (dC, dI) vwCl (qs_T c) U ∧ va_D (fun _ => True) (qs_W h c g) ∧ qs_N U)) (va_Qi (fun (r : Int32) (u : Sg) => r = r0 ∧ u = u0) (qs_at dC dI h c (va_A (qs_W h c g) sz)) (va_A (qs_W h c g) sz)) 0 0 (va_A (qs_W h c g) sz) := by
  refine Met.ofW (cc := b_P_add) (maxL := 7) (ret := (some .int)) (by decide +kernel) rfl ?_
  intro p e s m args below meth cd s₁ B hml hv
  obtain ⟨rfl, hsz, hP, hK, hD0, hNs⟩ := hv
  have hx := B.exec
  have hb := B.bytes
  have hr := B.returns
  have hts := atoms_spec (ws := (qs_ws y_P_add b_P_add 7 (some .int))) B.pre
  have hg : ∀ w ∈ qs_gt, w.before _ s = true := fun w h => hts w (List.mem_cons_of_mem _ h)
  have hown : s.vm.findClass R_P = some m.cls := findClass_of_methodNamed B.named
  have hlocks := B.notSynchronized
  subst hsz
  have hD := hD0.self (sz := s.heap.size)
  generalize hAe : va_A (qs_W h c g) s.heap.size = A at hD ⊢
  have hA : ∀ q : Nat, s.heap.size ≤ q → A q := fun q h => by rw [← hAe]; exact Or.inr h
  have hS : va_S A s.heap s.heap [] := va_S.rf
  have hl := lv_entry ([.ref (h 3), .int a1, .int a2, .int a3, .int a4, .int a5] : List Value) (n := 7) (Nat.le_of_ble_eq_true rfl)
  rw [lg_entry_eq]
  generalize (lg_sl ([.ref (h 3), .int a1, .int a2, .int a3, .int a4, .int a5] : List Value) ++ List.replicate (7 - (lg_sl ([.ref (h 3), .int a1, .int a2, .int a3, .int a4, .int a5] : List Value)).length) Slot.unset).toArray = ls at hl ⊢
  have hl : lv_has ls 7 [(0, .ref (h 3)), (1, .int (a1)), (2, .int (a2)), (3, .int (a3)), (4, .int (a4)), (5, .int (a5))] := hl
  unfold f_P_add at hF
  obtain ⟨H, hHe⟩ : ∃ H, H = s.heap := ⟨_, rfl⟩
  obtain ⟨locs, hLe⟩ : ∃ L : List Loc, L = [] := ⟨_, rfl⟩
  rw [← hHe] at hP ⊢
  rw [← hLe]
  have hS : va_S A s.heap H locs := by rw [hHe, hLe]; exact hS
  refine lv_aload_n hx hb d_P_add_0 rfl (lv_at hl 0 rfl) ?_
  refine lv_iload_n hx hb d_P_add_1 rfl (lv_at hl 1 rfl) ?_
  refine lv_aload_n hx hb d_P_add_2 rfl (lv_at hl 0 rfl) ?_
  refine va_get (D := (dC, dI)) (ci := 2) (v := .ref (h 12)) (C := R_P) (T := T_P) (N := 2) hx hb hg in_P hown hK hP 3 rfl rfl 1 (by decide) (hg _ t_65) (fun _ h9 => h9) rfl d_P_add_3 ?_
  refine lv_iload_n hx hb d_P_add_6 rfl (lv_at hl 1 rfl) ?_
  obtain ⟨c1, hF⟩ := qs_in_some hF
  refine va_iald hx hb hK hP 12 5 rfl rfl c1 d_P_add_7 ?_
  obtain ⟨r2, u3, hX, hF⟩ := qs_bn_some hF
  refine qs_ci (Wd := qs_W h c) (isC := [0, 1, 2, 3, 4, 5, 6, 7, 8, 9, 10, 11, 12, 13, 14, 15, 16]) (va_runV (own := "QuakeServer$Program") (C := "QuakeServer$Program") (As := [.int (a1), .int (g 12 a1.toNatClampNeg)]) (rest := []) ⟨hx, hb, hml, hown, hg⟩ (c_P_firstPart l dC dI h c H.size g (a1) (g 12 a1.toNatClampNeg) r2 u3 hX) (cwV 2 hg (qs_gV t_328 t_329 t_330 t_4 t_331) rfl rfl rfl (by decide +kernel) ⟨Nat.le_of_ble_eq_true rfl, Nat.le_of_ble_eq_true rfl⟩) ⟨qs_blind, va_recv hK hP (ci := 2) (q0 := 3) rfl rfl, fun U hU hW => ⟨rfl, by rw [hU], by rw [hU]; exact hP, va_K.moved hW.alike hK, hD.weaken (fun _ _ _ _ => trivial), hNs.warm hW⟩⟩ rfl rfl hl.1 rfl (lv_room (Nat.le_of_ble_eq_true rfl)) d_P_add_8 ⟨Nat.le_of_ble_eq_true rfl, Nat.le_of_ble_eq_true rfl⟩) rfl hP hD hS hA (fun H locs hP hD hS => ?_)
  refine lv_istore (lv' := [(6, .int (r2)), (0, .ref (h 3)), (1, .int (a1)), (2, .int (a2)), (3, .int (a3)), (4, .int (a4)), (5, .int (a5))]) hx hb d_P_add_11 hl (by decide) rfl (fun ls hl => ?_)
  refine lv_aload_n hx hb d_P_add_13 rfl (lv_at hl 1 rfl) ?_
  refine va_get (D := (dC, dI)) (ci := 2) (v := .ref (h 11)) (C := R_P) (T := T_P) (N := 2) hx hb hg in_P hown hK hP 3 rfl rfl 0 (by decide) (hg _ t_63) (fun _ h9 => h9) rfl d_P_add_14 ?_
  refine lv_iload hx hb d_P_add_17 (lv_at hl 0 rfl) ?_
  refine lv_iload_n hx hb d_P_add_19 rfl (lv_at hl 3 rfl) ?_
  obtain ⟨c4, hF⟩ := qs_in_some hF
  refine va_iast hx hb hK hP hD hS 11 4 rfl rfl c4 d_P_add_20 (fun H locs hP hD hS => ?_)
  obtain ⟨u5, hu5, hF⟩ := qs_st_some hF
  have hP : va_P (dC, dI) vwCl (qs_W h c u5) H := by rw [hu5]; exact hP
  have hD : va_D A (qs_W h c u5) := by rw [hu5]; exact hD
  clear hu5
  refine lv_aload_n hx hb d_P_add_21 rfl (lv_at hl 1 rfl) ?_
  refine va_get (D := (dC, dI)) (ci := 2) (v := .ref (h 11)) (C := R_P) (T := T_P) (N := 2) hx hb hg in_P hown hK hP 3 rfl rfl 0 (by decide) (hg _ t_63) (fun _ h9 => h9) rfl d_P_add_22 ?_
  refine lv_iload hx hb d_P_add_25 (lv_at hl 0 rfl) ?_
  refine lv_iconst (v := 1) hx hb d_P_add_27 (by decide) ?_
  refine lv_iadd hx hb d_P_add_28 ?_
  refine lv_iload_n hx hb d_P_add_29 rfl (lv_at hl 4 rfl) ?_
  obtain ⟨c6, hF⟩ := qs_in_some hF
  refine va_iast hx hb hK hP hD hS 11 4 rfl rfl c6 d_P_add_30 (fun H locs hP hD hS => ?_)
  obtain ⟨u7, hu7, hF⟩ := qs_st_some hF
  have hP : va_P (dC, dI) vwCl (qs_W h c u7) H := by rw [hu7]; exact hP
  have hD : va_D A (qs_W h c u7) := by rw [hu7]; exact hD
  clear hu7
  refine lv_aload_n hx hb d_P_add_31 rfl (lv_at hl 1 rfl) ?_
  refine va_get (D := (dC, dI)) (ci := 2) (v := .ref (h 11)) (C := R_P) (T := T_P) (N := 2) hx hb hg in_P hown hK hP 3 rfl rfl 0 (by decide) (hg _ t_63) (fun _ h9 => h9) rfl d_P_add_32 ?_
  refine lv_iload hx hb d_P_add_35 (lv_at hl 0 rfl) ?_
  refine lv_iconst (v := 2) hx hb d_P_add_37 (by decide) ?_
  refine lv_iadd hx hb d_P_add_38 ?_
  refine lv_iload hx hb d_P_add_39 (lv_at hl 5 rfl) ?_
  obtain ⟨c8, hF⟩ := qs_in_some hF
  refine va_iast hx hb hK hP hD hS 11 4 rfl rfl c8 d_P_add_41 (fun H locs hP hD hS => ?_)
  obtain ⟨u9, hu9, hF⟩ := qs_st_some hF
  have hP : va_P (dC, dI) vwCl (qs_W h c u9) H := by rw [hu9]; exact hP
  have hD : va_D A (qs_W h c u9) := by rw [hu9]; exact hD
  clear hu9
  refine lv_aload_n hx hb d_P_add_42 rfl (lv_at hl 1 rfl) ?_
  refine va_get (D := (dC, dI)) (ci := 2) (v := .ref (h 11)) (C := R_P) (T := T_P) (N := 2) hx hb hg in_P hown hK hP 3 rfl rfl 0 (by decide) (hg _ t_63) (fun _ h9 => h9) rfl d_P_add_43 ?_
  refine lv_iload hx hb d_P_add_46 (lv_at hl 0 rfl) ?_
  refine lv_iconst (v := 3) hx hb d_P_add_48 (by decide) ?_
  refine lv_iadd hx hb d_P_add_49 ?_
  refine lv_iload hx hb d_P_add_50 (lv_at hl 6 rfl) ?_
  obtain ⟨c10, hF⟩ := qs_in_some hF
  refine va_iast hx hb hK hP hD hS 11 4 rfl rfl c10 d_P_add_52 (fun H locs hP hD hS => ?_)
  obtain ⟨u11, hu11, hF⟩ := qs_st_some hF
  have hP : va_P (dC, dI) vwCl (qs_W h c u11) H := by rw [hu11]; exact hP
  have hD : va_D A (qs_W h c u11) := by rw [hu11]; exact hD
  clear hu11
  refine lv_aload_n hx hb d_P_add_53 rfl (lv_at hl 1 rfl) ?_
  refine va_get (D := (dC, dI)) (ci := 2) (v := .ref (h 12)) (C := R_P) (T := T_P) (N := 2) hx hb hg in_P hown hK hP 3 rfl rfl 1 (by decide) (hg _ t_65) (fun _ h9 => h9) rfl d_P_add_54 ?_
  refine lv_iload_n hx hb d_P_add_57 rfl (lv_at hl 2 rfl) ?_
  refine lv_dup2_11 hx hb d_P_add_58 rfl rfl ?_
  obtain ⟨c12, hF⟩ := qs_in_some hF
  refine va_iald hx hb hK hP 12 5 rfl rfl c12 d_P_add_59 ?_
  refine lv_iconst (v := 1) hx hb d_P_add_60 (by decide) ?_
  refine lv_iadd hx hb d_P_add_61 ?_
  obtain ⟨c13, hF⟩ := qs_in_some hF
  refine va_iast hx hb hK hP hD hS 12 5 rfl rfl c13 d_P_add_62 (fun H locs hP hD hS => ?_)
  obtain ⟨u14, hu14, hF⟩ := qs_st_some hF
  have hP : va_P (dC, dI) vwCl (qs_W h c u14) H := by rw [hu14]; exact hP
  have hD : va_D A (qs_W h c u14) := by rw [hu14]; exact hD
  clear hu14
  refine lv_aload_n hx hb d_P_add_63 rfl (lv_at hl 1 rfl) ?_
  refine va_get (D := (dC, dI)) (ci := 2) (v := .ref (h 12)) (C := R_P) (T := T_P) (N := 2) hx hb hg in_P hown hK hP 3 rfl rfl 1 (by decide) (hg _ t_65) (fun _ h9 => h9) rfl d_P_add_64 ?_
  refine lv_iload_n hx hb d_P_add_67 rfl (lv_at hl 2 rfl) ?_
  obtain ⟨c15, hF⟩ := qs_in_some hF
  refine va_iald hx hb hK hP 12 5 rfl rfl c15 d_P_add_68 ?_
  obtain ⟨h8, h9⟩ := qs_ret hF
  exact W.iret (v := u14 12 a1.toNatClampNeg) hx hb hr (fun t ht hW => ⟨⟨(u14 12 a1.toNatClampNeg), u14, rfl, ⟨h8, h9⟩, by rw [ht]; exact hP, va_K.moved hW.alike hK, hD⟩, hS.F ht⟩) hS.2.2 d_P_add_69
end
section
theorem d_M_advanceTime_0 : decode b_M_advanceTime 0 = .ok (.aload_n 0, 1) := by decide +kernel
theorem d_M_advanceTime_1 : decode b_M_advanceTime 1 = .ok (.aload_n 0, 1) := by decide +kernel
theorem d_M_advanceTime_2 : decode b_M_advanceTime 2 = .ok (.getfield 33, 3) := by decide +kernel
theorem d_M_advanceTime_5 : decode b_M_advanceTime 5 = .ok (.i2l, 1) := by decide +kernel
theorem d_M_advanceTime_6 : decode b_M_advanceTime 6 = .ok (.lconst 1, 1) := by decide +kernel
theorem d_M_advanceTime_7 : decode b_M_advanceTime 7 = .ok (.ladd, 1) := by decide +kernel
theorem d_M_advanceTime_8 : decode b_M_advanceTime 8 = .ok (.invokestatic 36, 3) := by decide +kernel
theorem d_M_advanceTime_11 : decode b_M_advanceTime 11 = .ok (.putfield 33, 3) := by decide +kernel
theorem d_M_advanceTime_14 : decode b_M_advanceTime 14 = .ok (.return_, 1) := by decide +kernel
def f_M_advanceTime (g : Sg)  : Option (Unit × Sg) := (qs_pb (f_Q_inRange (((g 23 0).toInt64) + (1 : Int64))) fun r1 => (qs_st (qs_i g 23 (r1)) fun u2 => (some ((), u2))))
set_option maxHeartbeats 4000000 in
set_option maxRecDepth 100000 in
theorem c_M_advanceTime (l : Launch) (dC : Nat → ClassId) (dI : Nat → Nat → Nat) (h : Nat → Nat) (c : Nat → ClassId) (sz : Nat) (g : Sg)  (u0 : Sg) (hF : f_M_advanceTime g  = some ((), u0)) : Met l y_M_advanceTime (qs_ws y_M_advanceTime b_M_advanceTime 1 none) ({ frames := 1, cells := 0, slots := 0, locals := 21 } : Room) (va_Pc ([.ref (h 4)] : List Value) (fun U => U.heap.size = sz ∧ va_P (dC, dI) vwCl (qs_W h c g) U.heap ∧ va_K (dC, dI) vwCl (qs_T c) U ∧ va_D (fun _ => True) (qs_W h c g) ∧ qs_N U)) (va_Qv (fun (u : Sg) => u = u0) (qs_at dC dI h c (va_A (qs_W h c g) sz)) (va_A (qs_W h c g) sz)) 0 0 (va_A (qs_W h c g) sz) := by
  refine Met.ofW (cc := b_M_advanceTime) (maxL := 1) (ret := none) (by decide +kernel) rfl ?_
  intro p e s m args below meth cd s₁ B hml hv
  obtain ⟨rfl, hsz, hP, hK, hD0, hNs⟩ := hv
  have hx := B.exec
  have hb := B.bytes
  have hr := B.returns
  have hts := atoms_spec (ws := (qs_ws y_M_advanceTime b_M_advanceTime 1 none)) B.pre
  have hg : ∀ w ∈ qs_gt, w.before _ s = true := fun w h => hts w (List.mem_cons_of_mem _ h)
  have hown : s.vm.findClass R_M = some m.cls := findClass_of_methodNamed B.named
  have hlocks := B.notSynchronized
  subst hsz
  have hD := hD0.self (sz := s.heap.size)
  generalize hAe : va_A (qs_W h c g) s.heap.size = A at hD ⊢
  have hA : ∀ q : Nat, s.heap.size ≤ q → A q := fun q h => by rw [← hAe]; exact Or.inr h
  have hS : va_S A s.heap s.heap [] := va_S.rf
  have hl := lv_entry ([.ref (h 4)] : List Value) (n := 1) (Nat.le_of_ble_eq_true rfl)
  rw [lg_entry_eq]
  generalize (lg_sl ([.ref (h 4)] : List Value) ++ List.replicate (1 - (lg_sl ([.ref (h 4)] : List Value)).length) Slot.unset).toArray = ls at hl ⊢
  have hl : lv_has ls 1 [(0, .ref (h 4))] := hl
  unfold f_M_advanceTime at hF
  obtain ⟨H, hHe⟩ : ∃ H, H = s.heap := ⟨_, rfl⟩
  obtain ⟨locs, hLe⟩ : ∃ L : List Loc, L = [] := ⟨_, rfl⟩
  rw [← hHe] at hP ⊢
  rw [← hLe]
  have hS : va_S A s.heap H locs := by rw [hHe, hLe]; exact hS
  refine lv_aload_n hx hb d_M_advanceTime_0 rfl (lv_at hl 0 rfl) ?_
  refine lv_aload_n hx hb d_M_advanceTime_1 rfl (lv_at hl 0 rfl) ?_
  refine va_get (D := (dC, dI)) (ci := 3) (v := .int (g 23 0)) (C := R_M) (T := T_M) (N := 11) hx hb hg in_M hown hK hP 4 rfl rfl 7 (by decide) (hg _ t_85) (fun _ h9 => h9) rfl d_M_advanceTime_2 ?_
  refine lv_i2l (v := (g 23 0).toInt64) hx hb d_M_advanceTime_5 rfl ?_
  refine lv_lconst (v := 1) hx hb d_M_advanceTime_6 (by decide) ?_
  refine lv_ladd hx hb d_M_advanceTime_7 ?_
  obtain ⟨r1, hX, hF⟩ := qs_pb_some hF
  refine qs_psi (va_runSN (own := "QuakeServer$Machine") (As := [.long (((g 23 0).toInt64) + (1 : Int64))]) (rest := [.ref (h 4)]) ⟨hx, hb, hml, hown, hg⟩ (c_Q_inRange l H.size (((g 23 0).toInt64) + (1 : Int64)) r1 hX) ⟨va_cnB (own := "QuakeServer$Machine") (index := 36) (host := "QuakeServer") 1 hg (qs_gc t_471) rfl rfl rfl (nM_6 hNs) (hg _ t_1) (by decide +kernel) ⟨Nat.le_of_ble_eq_true rfl, Nat.le_of_ble_eq_true rfl⟩, hg _ t_470, trivial⟩ ⟨qs_blind0, fun U hU hW => ⟨rfl, by rw [hU], hNs.warm hW⟩⟩ rfl rfl hl.1 rfl (lv_room (Nat.le_of_ble_eq_true rfl)) d_M_advanceTime_8 ⟨Nat.le_of_ble_eq_true rfl, Nat.le_of_ble_eq_true rfl⟩) hP hD hS hA (fun H locs hP hS => ?_)
  refine va_put (D := (dC, dI)) (ci := 3) (v := .int (r1)) (ty := .int) (C := R_M) (T := T_M) (N := 11) hx hb hg in_M ty_M ty_M_ok nm_M hown hK hP hD hS 4 rfl rfl 7 (by decide) (hg _ t_85) (fun _ h9 => h9) rfl (by decide +kernel) rfl rfl (Nat.le_of_ble_eq_true rfl) d_M_advanceTime_11 (fun H locs hP hD hS => ?_)
  obtain ⟨u2, hu2, hF⟩ := qs_st_some hF
  have hP : va_P (dC, dI) vwCl (qs_W h c u2) H := by rw [hu2]; exact hP
  have hD : va_D A (qs_W h c u2) := by rw [hu2]; exact hD
  clear hu2
  obtain ⟨h8, h9⟩ := qs_ret hF
  exact W.vret hx hb hr (fun t ht hW => ⟨⟨u2, rfl, h9, by rw [ht]; exact hP, va_K.moved hW.alike hK, hD⟩, hS.F ht⟩) hS.2.2 d_M_advanceTime_14

theorem d_M_leaveEndedFunctions_0 : decode b_M_leaveEndedFunctions 0 = .ok (.aload_n 0, 1) := by decide +kernel
theorem d_M_leaveEndedFunctions_1 : decode b_M_leaveEndedFunctions 1 = .ok (.getfield 51, 3) := by decide +kernel
theorem d_M_leaveEndedFunctions_4 : decode b_M_leaveEndedFunctions 4 = .ok (.ifCond .lt 44, 3) := by decide +kernel
theorem d_M_leaveEndedFunctions_7 : decode b_M_leaveEndedFunctions 7 = .ok (.aload_n 0, 1) := by decide +kernel
theorem d_M_leaveEndedFunctions_8 : decode b_M_leaveEndedFunctions 8 = .ok (.getfield 18, 3) := by decide +kernel
theorem d_M_leaveEndedFunctions_11 : decode b_M_leaveEndedFunctions 11 = .ok (.aload_n 0, 1) := by decide +kernel
theorem d_M_leaveEndedFunctions_12 : decode b_M_leaveEndedFunctions 12 = .ok (.getfield 51, 3) := by decide +kernel
theorem d_M_leaveEndedFunctions_15 : decode b_M_leaveEndedFunctions 15 = .ok (.iaload, 1) := by decide +kernel
theorem d_M_leaveEndedFunctions_16 : decode b_M_leaveEndedFunctions 16 = .ok (.aload_n 0, 1) := by decide +kernel
theorem d_M_leaveEndedFunctions_17 : decode b_M_leaveEndedFunctions 17 = .ok (.getfield 29, 3) := by decide +kernel
theorem d_M_leaveEndedFunctions_20 : decode b_M_leaveEndedFunctions 20 = .ok (.aload_n 0, 1) := by decide +kernel
theorem d_M_leaveEndedFunctions_21 : decode b_M_leaveEndedFunctions 21 = .ok (.getfield 15, 3) := by decide +kernel
theorem d_M_leaveEndedFunctions_24 : decode b_M_leaveEndedFunctions 24 = .ok (.aload_n 0, 1) := by decide +kernel
theorem d_M_leaveEndedFunctions_25 : decode b_M_leaveEndedFunctions 25 = .ok (.getfield 51, 3) := by decide +kernel
theorem d_M_leaveEndedFunctions_28 : decode b_M_leaveEndedFunctions 28 = .ok (.iaload, 1) := by decide +kernel
theorem d_M_leaveEndedFunctions_29 : decode b_M_leaveEndedFunctions 29 = .ok (.invokevirtual 67, 3) := by decide +kernel
theorem d_M_leaveEndedFunctions_32 : decode b_M_leaveEndedFunctions 32 = .ok (.if_icmp .lt 16, 3) := by decide +kernel
theorem d_M_leaveEndedFunctions_35 : decode b_M_leaveEndedFunctions 35 = .ok (.aload_n 0, 1) := by decide +kernel
theorem d_M_leaveEndedFunctions_36 : decode b_M_leaveEndedFunctions 36 = .ok (.dup, 1) := by decide +kernel
theorem d_M_leaveEndedFunctions_37 : decode b_M_leaveEndedFunctions 37 = .ok (.getfield 51, 3) := by decide +kernel
theorem d_M_leaveEndedFunctions_40 : decode b_M_leaveEndedFunctions 40 = .ok (.iconst 1, 1) := by decide +kernel
theorem d_M_leaveEndedFunctions_41 : decode b_M_leaveEndedFunctions 41 = .ok (.isub, 1) := by decide +kernel
theorem d_M_leaveEndedFunctions_42 : decode b_M_leaveEndedFunctions 42 = .ok (.putfield 51, 3) := by decide +kernel
theorem d_M_leaveEndedFunctions_45 : decode b_M_leaveEndedFunctions 45 = .ok (.goto (-45), 3) := by decide +kernel
theorem d_M_leaveEndedFunctions_48 : decode b_M_leaveEndedFunctions 48 = .ok (.return_, 1) := by decide +kernel
def f_M_leaveEndedFunctions_0  : Nat → Sg → Option (Unit × Sg)
  | 0, _ => none
  | n + 1, g => (if (g 21 0) < 0 then (some ((), g)) else (qs_in (g 21 0) 6 (qs_in (g 21 0) 6 (qs_bn (f_P_length g (g 14 (g 21 0).toNatClampNeg)) fun r4 u5 => (if (g 15 (g 21 0).toNatClampNeg) < r4 then (some ((), u5)) else (qs_st (qs_i u5 21 ((u5 21 0) - 1)) fun u7 => (f_M_leaveEndedFunctions_0 n u7)))))))
def f_M_leaveEndedFunctions (g : Sg)  : Option (Unit × Sg) := (f_M_leaveEndedFunctions_0 200 g)
set_option maxHeartbeats 4000000 in
set_option maxRecDepth 100000 in
theorem c_M_leaveEndedFunctions (l : Launch) (dC : Nat → ClassId) (dI : Nat → Nat → Nat) (h : Nat → Nat) (c : Nat → ClassId) (sz : Nat) (g : Sg)  (u0 : Sg) (hF : f_M_leaveEndedFunctions g  = some ((), u0)) : Met l y_M_leaveEndedFunctions (qs_ws y_M_leaveEndedFunctions b_M_leaveEndedFunctions 1 none) ({ frames := 1, cells := 0, slots := 0, locals := 21 } : Room) (va_Pc ([.ref (h 4)] : List Value) (fun U => U.heap.size = sz ∧ va_P (dC, dI) vwCl (qs_W h c g) U.heap ∧ va_K (dC, dI) vwCl (qs_T c) U ∧ va_D (fun _ => True) (qs_W h c g) ∧ qs_N U)) (va_Qv (fun (u : Sg) => u = u0) (qs_at dC dI h c (va_A (qs_W h c g) sz)) (va_A (qs_W h c g) sz)) 0 0 (va_A (qs_W h c g) sz) := by
  refine Met.ofW (cc := b_M_leaveEndedFunctions) (maxL := 1) (ret := none) (by decide +kernel) rfl ?_
  intro p e s m args below meth cd s₁ B hml hv
  obtain ⟨rfl, hsz, hP, hK, hD0, hNs⟩ := hv
  have hx := B.exec
  have hb := B.bytes
  have hr := B.returns
  have hts := atoms_spec (ws := (qs_ws y_M_leaveEndedFunctions b_M_leaveEndedFunctions 1 none)) B.pre
  have hg : ∀ w ∈ qs_gt, w.before _ s = true := fun w h => hts w (List.mem_cons_of_mem _ h)
  have hown : s.vm.findClass R_M = some m.cls := findClass_of_methodNamed B.named
  have hlocks := B.notSynchronized
  subst hsz
  have hD := hD0.self (sz := s.heap.size)
  generalize hAe : va_A (qs_W h c g) s.heap.size = A at hD ⊢
  have hA : ∀ q : Nat, s.heap.size ≤ q → A q := fun q h => by rw [← hAe]; exact Or.inr h
  have hS : va_S A s.heap s.heap [] := va_S.rf
  have kb_0 : ∀ n : Nat, ∀ (g : Sg) (H : Heap) (locs : List Loc) (ls : Array Slot), va_P (dC, dI) vwCl (qs_W h c g) H → va_D A (qs_W h c g) → va_S A s.heap H locs → lv_has ls 1 [(0, .ref (h 4))] → f_M_leaveEndedFunctions_0 n g = some ((), u0) → W p l e (headSpec (qs_ws y_M_leaveEndedFunctions b_M_leaveEndedFunctions 1 none) ({ frames := 1, cells := 0, slots := 0, locals := 21 } : Room)).room s m ([.ref (h 4)] : List Value).toArray below meth cd H locs 0 0 (MQ below (va_Qv (fun (u : Sg) => u = u0) (qs_at dC dI h c A) A) ([.ref (h 4)] : List Value).toArray s 0 0 A) (F0 m 0 ls []) := by
    intro n
    induction n with
    | zero =>
      intro g H locs ls hP hD hS hl hF
      exact nomatch (show (none : Option (Unit × Sg)) = some _ from hF)
    | succ n ih =>
      intro g H locs ls hP hD hS hl hF
      rw [f_M_leaveEndedFunctions_0] at hF
      refine lv_aload_n hx hb d_M_leaveEndedFunctions_0 rfl (lv_at hl 0 rfl) ?_
      refine va_get (D := (dC, dI)) (ci := 3) (v := .int (g 21 0)) (C := R_M) (T := T_M) (N := 11) hx hb hg in_M hown hK hP 4 rfl rfl 5 (by decide) (hg _ t_83) (fun _ h9 => h9) rfl d_M_leaveEndedFunctions_1 ?_
      refine lv_if_lt (tgt := 48) hx hb d_M_leaveEndedFunctions_4 (by decide) (fun c1 => ?_) (fun c1 => ?_)
      · have hF := qs_pos c1 hF
        obtain ⟨h8, h9⟩ := qs_ret hF
        exact W.vret hx hb hr (fun t ht hW => ⟨⟨g, rfl, h9, by rw [ht]; exact hP, va_K.moved hW.alike hK, hD⟩, hS.F ht⟩) hS.2.2 d_M_leaveEndedFunctions_48
      · have hF := qs_neg c1 hF
        refine lv_aload_n hx hb d_M_leaveEndedFunctions_7 rfl (lv_at hl 0 rfl) ?_
        refine va_get (D := (dC, dI)) (ci := 3) (v := .ref (h 15)) (C := R_M) (T := T_M) (N := 11) hx hb hg in_M hown hK hP 4 rfl rfl 4 (by decide) (hg _ t_82) (fun _ h9 => h9) rfl d_M_leaveEndedFunctions_8 ?_
        refine lv_aload_n hx hb d_M_leaveEndedFunctions_11 rfl (lv_at hl 0 rfl) ?_
        refine va_get (D := (dC, dI)) (ci := 3) (v := .int (g 21 0)) (C := R_M) (T := T_M) (N := 11) hx hb hg in_M hown hK hP 4 rfl rfl 5 (by decide) (hg _ t_83) (fun _ h9 => h9) rfl d_M_leaveEndedFunctions_12 ?_
        obtain ⟨c2, hF⟩ := qs_in_some hF
        refine va_iald hx hb hK hP 15 8 rfl rfl c2 d_M_leaveEndedFunctions_15 ?_
        refine lv_aload_n hx hb d_M_leaveEndedFunctions_16 rfl (lv_at hl 0 rfl) ?_
        refine va_get (D := (dC, dI)) (ci := 3) (v := .ref (h 3)) (C := R_M) (T := T_M) (N := 11) hx hb hg in_M hown hK hP 4 rfl rfl 1 (by decide) (hg _ t_78) (fun _ h9 => h9) rfl d_M_leaveEndedFunctions_17 ?_
        refine lv_aload_n hx hb d_M_leaveEndedFunctions_20 rfl (lv_at hl 0 rfl) ?_
        refine va_get (D := (dC, dI)) (ci := 3) (v := .ref (h 14)) (C := R_M) (T := T_M) (N := 11) hx hb hg in_M hown hK hP 4 rfl rfl 3 (by decide) (hg _ t_81) (fun _ h9 => h9) rfl d_M_leaveEndedFunctions_21 ?_
        refine lv_aload_n hx hb d_M_leaveEndedFunctions_24 rfl (lv_at hl 0 rfl) ?_
        refine va_get (D := (dC, dI)) (ci := 3) (v := .int (g 21 0)) (C := R_M) (T := T_M) (N := 11) hx hb hg in_M hown hK hP 4 rfl rfl 5 (by decide) (hg _ t_83) (fun _ h9 => h9) rfl d_M_leaveEndedFunctions_25 ?_
        obtain ⟨c3, hF⟩ := qs_in_some hF
        refine va_iald hx hb hK hP 14 7 rfl rfl c3 d_M_leaveEndedFunctions_28 ?_
        obtain ⟨r4, u5, hX, hF⟩ := qs_bn_some hF
        refine qs_ci (Wd := qs_W h c) (isC := [0, 1, 2, 3, 4, 5, 6, 7, 8, 9, 10, 11, 12, 13, 14, 15, 16]) (va_runV (own := "QuakeServer$Machine") (C := "QuakeServer$Program") (As := [.int (g 14 (g 21 0).toNatClampNeg)]) (rest := [.int (g 15 (g 21 0).toNatClampNeg)]) ⟨hx, hb, hml, hown, hg⟩ (c_P_length l dC dI h c H.size g (g 14 (g 21 0).toNatClampNeg) r4 u5 hX) (cwV 1 hg (qs_gV t_450 t_320 t_321 t_4 t_322) rfl rfl rfl (by decide +kernel) ⟨Nat.le_of_ble_eq_true rfl, Nat.le_of_ble_eq_true rfl⟩) ⟨qs_blind, va_recv hK hP (ci := 2) (q0 := 3) rfl rfl, fun U hU hW => ⟨rfl, by rw [hU], by rw [hU]; exact hP, va_K.moved hW.alike hK, hD.weaken (fun _ _ _ _ => trivial), hNs.warm hW⟩⟩ rfl rfl hl.1 rfl (lv_room (Nat.le_of_ble_eq_true rfl)) d_M_leaveEndedFunctions_29 ⟨Nat.le_of_ble_eq_true rfl, Nat.le_of_ble_eq_true rfl⟩) rfl hP hD hS hA (fun H locs hP hD hS => ?_)
        refine lv_icmp_lt (tgt := 48) hx hb d_M_leaveEndedFunctions_32 (by decide) (fun c6 => ?_) (fun c6 => ?_)
        · have hF := qs_pos c6 hF
          obtain ⟨h8, h9⟩ := qs_ret hF
          exact W.vret hx hb hr (fun t ht hW => ⟨⟨u5, rfl, h9, by rw [ht]; exact hP, va_K.moved hW.alike hK, hD⟩, hS.F ht⟩) hS.2.2 d_M_leaveEndedFunctions_48
        · have hF := qs_neg c6 hF
          refine lv_aload_n hx hb d_M_leaveEndedFunctions_35 rfl (lv_at hl 0 rfl) ?_
          refine lv_dup hx hb d_M_leaveEndedFunctions_36 rfl ?_
          refine va_get (D := (dC, dI)) (ci := 3) (v := .int (u5 21 0)) (C := R_M) (T := T_M) (N := 11) hx hb hg in_M hown hK hP 4 rfl rfl 5 (by decide) (hg _ t_83) (fun _ h9 => h9) rfl d_M_leaveEndedFunctions_37 ?_
          refine lv_iconst (v := 1) hx hb d_M_leaveEndedFunctions_40 (by decide) ?_
          refine lv_isub hx hb d_M_leaveEndedFunctions_41 ?_
          refine va_put (D := (dC, dI)) (ci := 3) (v := .int ((u5 21 0) - 1)) (ty := .int) (C := R_M) (T := T_M) (N := 11) hx hb hg in_M ty_M ty_M_ok nm_M hown hK hP hD hS 4 rfl rfl 5 (by decide) (hg _ t_83) (fun _ h9 => h9) rfl (by decide +kernel) rfl rfl (Nat.le_of_ble_eq_true rfl) d_M_leaveEndedFunctions_42 (fun H locs hP hD hS => ?_)
          obtain ⟨u7, hu7, hF⟩ := qs_st_some hF
          have hP : va_P (dC, dI) vwCl (qs_W h c u7) H := by rw [hu7]; exact hP
          have hD : va_D A (qs_W h c u7) := by rw [hu7]; exact hD
          clear hu7
          refine lv_goto (tgt := 0) hx hb d_M_leaveEndedFunctions_45 (by decide) ?_
          exact ih u7 H locs ls hP hD hS (lv_sub hl [0] rfl) hF
  have hl := lv_entry ([.ref (h 4)] : List Value) (n := 1) (Nat.le_of_ble_eq_true rfl)
  rw [lg_entry_eq]
  generalize (lg_sl ([.ref (h 4)] : List Value) ++ List.replicate (1 - (lg_sl ([.ref (h 4)] : List Value)).length) Slot.unset).toArray = ls at hl ⊢
  have hl : lv_has ls 1 [(0, .ref (h 4))] := hl
  unfold f_M_leaveEndedFunctions at hF
  obtain ⟨H, hHe⟩ : ∃ H, H = s.heap := ⟨_, rfl⟩
  obtain ⟨locs, hLe⟩ : ∃ L : List Loc, L = [] := ⟨_, rfl⟩
  rw [← hHe] at hP ⊢
  rw [← hLe]
  have hS : va_S A s.heap H locs := by rw [hHe, hLe]; exact hS
  exact kb_0 200 g H locs ls hP hD hS (lv_sub hl [0] rfl) hF

theorem d_M_enter_0 : decode b_M_enter 0 = .ok (.aload_n 0, 1) := by decide +kernel
theorem d_M_enter_1 : decode b_M_enter 1 = .ok (.getfield 51, 3) := by decide +kernel
theorem d_M_enter_4 : decode b_M_enter 4 = .ok (.iconst 5, 1) := by decide +kernel
theorem d_M_enter_5 : decode b_M_enter 5 = .ok (.if_icmp .ne 9, 3) := by decide +kernel
theorem d_M_enter_8 : decode b_M_enter 8 = .ok (.aload_n 0, 1) := by decide +kernel
theorem d_M_enter_9 : decode b_M_enter 9 = .ok (.iconst 1, 1) := by decide +kernel
theorem d_M_enter_10 : decode b_M_enter 10 = .ok (.putfield 54, 3) := by decide +kernel
theorem d_M_enter_13 : decode b_M_enter 13 = .ok (.return_, 1) := by decide +kernel
theorem d_M_enter_14 : decode b_M_enter 14 = .ok (.aload_n 0, 1) := by decide +kernel
theorem d_M_enter_15 : decode b_M_enter 15 = .ok (.dup, 1) := by decide +kernel
theorem d_M_enter_16 : decode b_M_enter 16 = .ok (.getfield 51, 3) := by decide +kernel
theorem d_M_enter_19 : decode b_M_enter 19 = .ok (.iconst 1, 1) := by decide +kernel
theorem d_M_enter_20 : decode b_M_enter 20 = .ok (.iadd, 1) := by decide +kernel
theorem d_M_enter_21 : decode b_M_enter 21 = .ok (.putfield 51, 3) := by decide +kernel
theorem d_M_enter_24 : decode b_M_enter 24 = .ok (.aload_n 0, 1) := by decide +kernel
theorem d_M_enter_25 : decode b_M_enter 25 = .ok (.getfield 15, 3) := by decide +kernel
theorem d_M_enter_28 : decode b_M_enter 28 = .ok (.aload_n 0, 1) := by decide +kernel
theorem d_M_enter_29 : decode b_M_enter 29 = .ok (.getfield 51, 3) := by decide +kernel
theorem d_M_enter_32 : decode b_M_enter 32 = .ok (.iload_n 1, 1) := by decide +kernel
theorem d_M_enter_33 : decode b_M_enter 33 = .ok (.iastore, 1) := by decide +kernel
theorem d_M_enter_34 : decode b_M_enter 34 = .ok (.aload_n 0, 1) := by decide +kernel
theorem d_M_enter_35 : decode b_M_enter 35 = .ok (.getfield 18, 3) := by decide +kernel
theorem d_M_enter_38 : decode b_M_enter 38 = .ok (.aload_n 0, 1) := by decide +kernel
theorem d_M_enter_39 : decode b_M_enter 39 = .ok (.getfield 51, 3) := by decide +kernel
theorem d_M_enter_42 : decode b_M_enter 42 = .ok (.iconst 0, 1) := by decide +kernel
theorem d_M_enter_43 : decode b_M_enter 43 = .ok (.iastore, 1) := by decide +kernel
theorem d_M_enter_44 : decode b_M_enter 44 = .ok (.return_, 1) := by decide +kernel
def f_M_enter (g : Sg) (a1 : Int32) : Option (Unit × Sg) := (if (g 21 0) = 5 then (qs_st (qs_i g 22 (1)) fun u7 => (some ((), u7))) else (qs_st (qs_i g 21 ((g 21 0) + 1)) fun u2 => (qs_in (u2 21 0) 6 (qs_st (qs_a u2 14 (u2 21 0).toNatClampNeg (a1)) fun u4 => (qs_in (u4 21 0) 6 (qs_st (qs_a u4 15 (u4 21 0).toNatClampNeg (0)) fun u6 => (some ((), u6))))))))
set_option maxHeartbeats 4000000 in
set_option maxRecDepth 100000 in
theorem c_M_enter (l : Launch) (dC : Nat → ClassId) (dI : Nat → Nat → Nat) (h : Nat → Nat) (c : Nat → ClassId) (sz : Nat) (g : Sg) (a1 : Int32) (u0 : Sg) (hF : f_M_enter g a1 = some ((), u0)) : Met l y_M_enter (qs_ws y_M_enter b_M_enter 2 none) ({ frames := 0, cells := 0, slots := 0, locals := 0 } : Room) (va_Pc ([.ref (h 4), .int a1] : List Value) (fun U => U.heap.size = sz ∧ va_P (dC, dI) vwCl (qs_W h c g) U.heap ∧ va_K (dC, dI) vwCl (qs_T c) U ∧ va_D (fun _ => True) (qs_W h c g) ∧ qs_N U)) (va_Qv (fun (u : Sg) => u = u0) (qs_at dC dI h c (va_A (qs_W h c g) sz)) (va_A (qs_W h c g) sz)) 0 0 (va_A (qs_W h c g) sz) := by
  refine Met.ofW (cc := b_M_enter) (maxL := 2) (ret := none) (by decide +kernel) rfl ?_
  intro p e s m args below meth cd s₁ B hml hv
  obtain ⟨rfl, hsz, hP, hK, hD0, hNs⟩ := hv
  have hx := B.exec
  have hb := B.bytes
  have hr := B.returns
  have hts := atoms_spec (ws := (qs_ws y_M_enter b_M_enter 2 none)) B.pre
  have hg : ∀ w ∈ qs_gt, w.before _ s = true := fun w h => hts w (List.mem_cons_of_mem _ h)
  have hown : s.vm.findClass R_M = some m.cls := findClass_of_methodNamed B.named
  have hlocks := B.notSynchronized
  subst hsz
  have hD := hD0.self (sz := s.heap.size)
  generalize hAe : va_A (qs_W h c g) s.heap.size = A at hD ⊢
  have hA : ∀ q : Nat, s.heap.size ≤ q → A q := fun q h => by rw [← hAe]; exact Or.inr h
  have hS : va_S A s.heap s.heap [] := va_S.rf
  have hl := lv_entry ([.ref (h 4), .int a1] : List Value) (n := 2) (Nat.le_of_ble_eq_true rfl)
  rw [lg_entry_eq]
  generalize (lg_sl ([.ref (h 4), .int a1] : List Value) ++ List.replicate (2 - (lg_sl ([.ref (h 4), .int a1] : List Value)).length) Slot.unset).toArray = ls at hl ⊢
  have hl : lv_has ls 2 [(0, .ref (h 4)), (1, .int (a1))] := hl
  unfold f_M_enter at hF
  obtain ⟨H, hHe⟩ : ∃ H, H = s.heap := ⟨_, rfl⟩
  obtain ⟨locs, hLe⟩ : ∃ L : List Loc, L = [] := ⟨_, rfl⟩
  rw [← hHe] at hP ⊢
  rw [← hLe]
  have hS : va_S A s.heap H locs := by rw [hHe, hLe]; exact hS
  refine lv_aload_n hx hb d_M_enter_0 rfl (lv_at hl 0 rfl) ?_
  refine va_get (D := (dC, dI)) (ci := 3) (v := .int (g 21 0)) (C := R_M) (T := T_M) (N := 11) hx hb hg in_M hown hK hP 4 rfl rfl 5 (by decide) (hg _ t_83) (fun _ h9 => h9) rfl d_M_enter_1 ?_
  refine lv_iconst (v := 5) hx hb d_M_enter_4 (by decide) ?_
  refine lv_icmp_ne (tgt := 14) hx hb d_M_enter_5 (by decide) (fun c1 => ?_) (fun c1 => ?_)
  · have hF := qs_neg c1 hF
    refine lv_aload_n hx hb d_M_enter_14 rfl (lv_at hl 0 rfl) ?_
    refine lv_dup hx hb d_M_enter_15 rfl ?_
    refine va_get (D := (dC, dI)) (ci := 3) (v := .int (g 21 0)) (C := R_M) (T := T_M) (N := 11) hx hb hg in_M hown hK hP 4 rfl rfl 5 (by decide) (hg _ t_83) (fun _ h9 => h9) rfl d_M_enter_16 ?_
    refine lv_iconst (v := 1) hx hb d_M_enter_19 (by decide) ?_
    refine lv_iadd hx hb d_M_enter_20 ?_
    refine va_put (D := (dC, dI)) (ci := 3) (v := .int ((g 21 0) + 1)) (ty := .int) (C := R_M) (T := T_M) (N := 11) hx hb hg in_M ty_M ty_M_ok nm_M hown hK hP hD hS 4 rfl rfl 5 (by decide) (hg _ t_83) (fun _ h9 => h9) rfl (by decide +kernel) rfl rfl (Nat.le_of_ble_eq_true rfl) d_M_enter_21 (fun H locs hP hD hS => ?_)
    obtain ⟨u2, hu2, hF⟩ := qs_st_some hF
    have hP : va_P (dC, dI) vwCl (qs_W h c u2) H := by rw [hu2]; exact hP
    have hD : va_D A (qs_W h c u2) := by rw [hu2]; exact hD
    clear hu2
    refine lv_aload_n hx hb d_M_enter_24 rfl (lv_at hl 0 rfl) ?_
    refine va_get (D := (dC, dI)) (ci := 3) (v := .ref (h 14)) (C := R_M) (T := T_M) (N := 11) hx hb hg in_M hown hK hP 4 rfl rfl 3 (by decide) (hg _ t_81) (fun _ h9 => h9) rfl d_M_enter_25 ?_
    refine lv_aload_n hx hb d_M_enter_28 rfl (lv_at hl 0 rfl) ?_
    refine va_get (D := (dC, dI)) (ci := 3) (v := .int (u2 21 0)) (C := R_M) (T := T_M) (N := 11) hx hb hg in_M hown hK hP 4 rfl rfl 5 (by decide) (hg _ t_83) (fun _ h9 => h9) rfl d_M_enter_29 ?_
    refine lv_iload_n hx hb d_M_enter_32 rfl (lv_at hl 1 rfl) ?_
    obtain ⟨c3, hF⟩ := qs_in_some hF
    refine va_iast hx hb hK hP hD hS 14 7 rfl rfl c3 d_M_enter_33 (fun H locs hP hD hS => ?_)
    obtain ⟨u4, hu4, hF⟩ := qs_st_some hF
    have hP : va_P (dC, dI) vwCl (qs_W h c u4) H := by rw [hu4]; exact hP
    have hD : va_D A (qs_W h c u4) := by rw [hu4]; exact hD
    clear hu4
    refine lv_aload_n hx hb d_M_enter_34 rfl (lv_at hl 0 rfl) ?_
    refine va_get (D := (dC, dI)) (ci := 3) (v := .ref (h 15)) (C := R_M) (T := T_M) (N := 11) hx hb hg in_M hown hK hP 4 rfl rfl 4 (by decide) (hg _ t_82) (fun _ h9 => h9) rfl d_M_enter_35 ?_
    refine lv_aload_n hx hb d_M_enter_38 rfl (lv_at hl 0 rfl) ?_
    refine va_get (D := (dC, dI)) (ci := 3) (v := .int (u4 21 0)) (C := R_M) (T := T_M) (N := 11) hx hb hg in_M hown hK hP 4 rfl rfl 5 (by decide) (hg _ t_83) (fun _ h9 => h9) rfl d_M_enter_39 ?_
    refine lv_iconst (v := 0) hx hb d_M_enter_42 (by decide) ?_
    obtain ⟨c5, hF⟩ := qs_in_some hF
    refine va_iast hx hb hK hP hD hS 15 8 rfl rfl c5 d_M_enter_43 (fun H locs hP hD hS => ?_)
    obtain ⟨u6, hu6, hF⟩ := qs_st_some hF
    have hP : va_P (dC, dI) vwCl (qs_W h c u6) H := by rw [hu6]; exact hP
    have hD : va_D A (qs_W h c u6) := by rw [hu6]; exact hD
    clear hu6
    obtain ⟨h8, h9⟩ := qs_ret hF
    exact W.vret hx hb hr (fun t ht hW => ⟨⟨u6, rfl, h9, by rw [ht]; exact hP, va_K.moved hW.alike hK, hD⟩, hS.F ht⟩) hS.2.2 d_M_enter_44
  · have hF := qs_pos c1 hF
    refine lv_aload_n hx hb d_M_enter_8 rfl (lv_at hl 0 rfl) ?_
    refine lv_iconst (v := 1) hx hb d_M_enter_9 (by decide) ?_
    refine va_put (D := (dC, dI)) (ci := 3) (v := .int (1)) (ty := .boolean) (C := R_M) (T := T_M) (N := 11) hx hb hg in_M ty_M ty_M_ok nm_M hown hK hP hD hS 4 rfl rfl 6 (by decide) (hg _ t_84) (fun _ h9 => h9) rfl (by decide +kernel) rfl rfl (Nat.le_of_ble_eq_true rfl) d_M_enter_10 (fun H locs hP hD hS => ?_)
    obtain ⟨u7, hu7, hF⟩ := qs_st_some hF
    have hP : va_P (dC, dI) vwCl (qs_W h c u7) H := by rw [hu7]; exact hP
    have hD : va_D A (qs_W h c u7) := by rw [hu7]; exact hD
    clear hu7
    obtain ⟨h8, h9⟩ := qs_ret hF
    exact W.vret hx hb hr (fun t ht hW => ⟨⟨u7, rfl, h9, by rw [ht]; exact hP, va_K.moved hW.alike hK, hD⟩, hS.F ht⟩) hS.2.2 d_M_enter_13

theorem d_M_draw_0 : decode b_M_draw 0 = .ok (.aload_n 0, 1) := by decide +kernel
theorem d_M_draw_1 : decode b_M_draw 1 = .ok (.aload_n 0, 1) := by decide +kernel
theorem d_M_draw_2 : decode b_M_draw 2 = .ok (.getfield 21, 3) := by decide +kernel
theorem d_M_draw_5 : decode b_M_draw 5 = .ok (.i2l, 1) := by decide +kernel
theorem d_M_draw_6 : decode b_M_draw 6 = .ok (.ldc2_w 120, 3) := by decide +kernel
theorem d_M_draw_9 : decode b_M_draw 9 = .ok (.lmul, 1) := by decide +kernel
theorem d_M_draw_10 : decode b_M_draw 10 = .ok (.ldc2_w 122, 3) := by decide +kernel
theorem d_M_draw_13 : decode b_M_draw 13 = .ok (.ladd, 1) := by decide +kernel
theorem d_M_draw_14 : decode b_M_draw 14 = .ok (.ldc2_w 124, 3) := by decide +kernel
theorem d_M_draw_17 : decode b_M_draw 17 = .ok (.lrem, 1) := by decide +kernel
theorem d_M_draw_18 : decode b_M_draw 18 = .ok (.l2i, 1) := by decide +kernel
theorem d_M_draw_19 : decode b_M_draw 19 = .ok (.putfield 21, 3) := by decide +kernel
theorem d_M_draw_22 : decode b_M_draw 22 = .ok (.aload_n 0, 1) := by decide +kernel
theorem d_M_draw_23 : decode b_M_draw 23 = .ok (.getfield 21, 3) := by decide +kernel
theorem d_M_draw_26 : decode b_M_draw 26 = .ok (.ldc 126, 2) := by decide +kernel
theorem d_M_draw_28 : decode b_M_draw 28 = .ok (.idiv, 1) := by decide +kernel
theorem d_M_draw_29 : decode b_M_draw 29 = .ok (.bipush 8, 2) := by decide +kernel
theorem d_M_draw_31 : decode b_M_draw 31 = .ok (.irem, 1) := by decide +kernel
theorem d_M_draw_32 : decode b_M_draw 32 = .ok (.ireturn, 1) := by decide +kernel
def f_M_draw (g : Sg)  : Option (Int32 × Sg) := (qs_st (qs_i g 24 ((((((g 24 0).toInt64) * (1103515245 : Int64)) + (12345 : Int64)) - ((((g 24 0).toInt64) * (1103515245 : Int64)) + (12345 : Int64)) / (2147483648 : Int64) * (2147483648 : Int64)).toInt32)) fun u1 => (some (((u1 24 0) / 65536) - ((u1 24 0) / 65536) / 8 * 8, u1)))
set_option maxHeartbeats 4000000 in
set_option maxRecDepth 100000 in
theorem c_M_draw (l : Launch) (dC : Nat → ClassId) (dI : Nat → Nat → Nat) (h : Nat → Nat) (c : Nat → ClassId) (sz : Nat) (g : Sg)  (r0 : Int32) (u0 : Sg) (hF : f_M_draw g  = some (r0, u0)) : Met l y_M_draw (qs_ws y_M_draw b_M_draw 1 (some .int)) ({ frames := 0, cells := 0, slots := 0, locals := 0 } : Room) (va_Pc ([.ref (h 4)] : List Value) (fun U => U.heap.size = sz ∧ va_P (dC, dI) vwCl (qs_W h c g) U.heap ∧ va_K (dC, dI) vwCl (qs_T c) U ∧ va_D (fun _ => True) (qs_W h c g) ∧ qs_N U)) (va_Qi (fun (r : Int32) (u : Sg) => r = r0 ∧ u = u0) (qs_at dC dI h c (va_A (qs_W h c g) sz)) (va_A (qs_W h c g) sz)) 0 0 (va_A (qs_W h c g) sz) := by
  refine Met.ofW (cc := b_M_draw) (maxL := 1) (ret := (some .int)) (by decide +kernel) rfl ?_
  intro p e s m args below meth cd s₁ B hml hv
  obtain ⟨rfl, hsz, hP, hK, hD0, hNs⟩ := hv
  have hx := B.exec
  have hb := B.bytes
  have hr := B.returns
  have hts := atoms_spec (ws := (qs_ws y_M_draw b_M_draw 1 (some .int))) B.pre
  have hg : ∀ w ∈ qs_gt, w.before _ s = true := fun w h => hts w (List.mem_cons_of_mem _ h)
  have hown : s.vm.findClass R_M = some m.cls := findClass_of_methodNamed B.named
  have hlocks := B.notSynchronized
  subst hsz
  have hD := hD0.self (sz := s.heap.size)
  generalize hAe : va_A (qs_W h c g) s.heap.size = A at hD ⊢
  have hA : ∀ q : Nat, s.heap.size ≤ q → A q := fun q h => by rw [← hAe]; exact Or.inr h
  have hS : va_S A s.heap s.heap [] := va_S.rf
  have hl := lv_entry ([.ref (h 4)] : List Value) (n := 1) (Nat.le_of_ble_eq_true rfl)
  rw [lg_entry_eq]
  generalize (lg_sl ([.ref (h 4)] : List Value) ++ List.replicate (1 - (lg_sl ([.ref (h 4)] : List Value)).length) Slot.unset).toArray = ls at hl ⊢
  have hl : lv_has ls 1 [(0, .ref (h 4))] := hl
  unfold f_M_draw at hF
  obtain ⟨H, hHe⟩ : ∃ H, H = s.heap := ⟨_, rfl⟩
  obtain ⟨locs, hLe⟩ : ∃ L : List Loc, L = [] := ⟨_, rfl⟩
  rw [← hHe] at hP ⊢
  rw [← hLe]
  have hS : va_S A s.heap H locs := by rw [hHe, hLe]; exact hS
  refine lv_aload_n hx hb d_M_draw_0 rfl (lv_at hl 0 rfl) ?_
  refine lv_aload_n hx hb d_M_draw_1 rfl (lv_at hl 0 rfl) ?_
  refine va_get (D := (dC, dI)) (ci := 3) (v := .int (g 24 0)) (C := R_M) (T := T_M) (N := 11) hx hb hg in_M hown hK hP 4 rfl rfl 8 (by decide) (hg _ t_88) (fun _ h9 => h9) rfl d_M_draw_2 ?_
  refine lv_i2l (v := (g 24 0).toInt64) hx hb d_M_draw_5 rfl ?_
  refine lv_ldc2 (v := 1103515245) hx hb hown (hg _ t_488) d_M_draw_6 ?_
  refine lv_lmul hx hb d_M_draw_9 ?_
  refine lv_ldc2 (v := 12345) hx hb hown (hg _ t_489) d_M_draw_10 ?_
  refine lv_ladd hx hb d_M_draw_13 ?_
  refine lv_ldc2 (v := 2147483648) hx hb hown (hg _ t_490) d_M_draw_14 ?_
  refine lv_lrem hx hb d_M_draw_17 (by decide) ?_
  refine lv_l2i (v := (((((g 24 0).toInt64) * (1103515245 : Int64)) + (12345 : Int64)) - ((((g 24 0).toInt64) * (1103515245 : Int64)) + (12345 : Int64)) / (2147483648 : Int64) * (2147483648 : Int64)).toInt32) hx hb d_M_draw_18 rfl ?_
  refine va_put (D := (dC, dI)) (ci := 3) (v := .int ((((((g 24 0).toInt64) * (1103515245 : Int64)) + (12345 : Int64)) - ((((g 24 0).toInt64) * (1103515245 : Int64)) + (12345 : Int64)) / (2147483648 : Int64) * (2147483648 : Int64)).toInt32)) (ty := .int) (C := R_M) (T := T_M) (N := 11) hx hb hg in_M ty_M ty_M_ok nm_M hown hK hP hD hS 4 rfl rfl 8 (by decide) (hg _ t_88) (fun _ h9 => h9) rfl (by decide +kernel) rfl rfl (Nat.le_of_ble_eq_true rfl) d_M_draw_19 (fun H locs hP hD hS => ?_)
  obtain ⟨u1, hu1, hF⟩ := qs_st_some hF
  have hP : va_P (dC, dI) vwCl (qs_W h c u1) H := by rw [hu1]; exact hP
  have hD : va_D A (qs_W h c u1) := by rw [hu1]; exact hD
  clear hu1
  refine lv_aload_n hx hb d_M_draw_22 rfl (lv_at hl 0 rfl) ?_
  refine va_get (D := (dC, dI)) (ci := 3) (v := .int (u1 24 0)) (C := R_M) (T := T_M) (N := 11) hx hb hg in_M hown hK hP 4 rfl rfl 8 (by decide) (hg _ t_88) (fun _ h9 => h9) rfl d_M_draw_23 ?_
  refine lv_ldc (v := 65536) hx hb hown (hg _ t_491) d_M_draw_26 ?_
  refine lv_idiv hx hb d_M_draw_28 (by decide) ?_
  refine lv_bipush (v := 8) hx hb d_M_draw_29 (by decide) ?_
  refine lv_irem hx hb d_M_draw_31 (by decide) ?_
  obtain ⟨h8, h9⟩ := qs_ret hF
  exact W.iret (v := ((u1 24 0) / 65536) - ((u1 24 0) / 65536) / 8 * 8) hx hb hr (fun t ht hW => ⟨⟨(((u1 24 0) / 65536) - ((u1 24 0) / 65536) / 8 * 8), u1, rfl, ⟨h8, h9⟩, by rw [ht]; exact hP, va_K.moved hW.alike hK, hD⟩, hS.F ht⟩) hS.2.2 d_M_draw_32

theorem d_M_result_0 : decode b_M_result 0 = .ok (.iload_n 1, 1) := by decide +kernel
theorem d_M_result_1 : decode b_M_result 1 = .ok (.tableswitch 240 0 14 #[75, 77, 96, 115, 140, 162, 184, 191, 240, 240, 240, 240, 209, 240, 220], 75) := by decide +kernel
theorem d_M_result_76 : decode b_M_result 76 = .ok (.iload_n 3, 1) := by decide +kernel
theorem d_M_result_77 : decode b_M_result 77 = .ok (.ireturn, 1) := by decide +kernel
theorem d_M_result_78 : decode b_M_result 78 = .ok (.aload_n 0, 1) := by decide +kernel
theorem d_M_result_79 : decode b_M_result 79 = .ok (.getfield 9, 3) := by decide +kernel
theorem d_M_result_82 : decode b_M_result 82 = .ok (.iload_n 2, 1) := by decide +kernel
theorem d_M_result_83 : decode b_M_result 83 = .ok (.iaload, 1) := by decide +kernel
theorem d_M_result_84 : decode b_M_result 84 = .ok (.i2l, 1) := by decide +kernel
theorem d_M_result_85 : decode b_M_result 85 = .ok (.aload_n 0, 1) := by decide +kernel
theorem d_M_result_86 : decode b_M_result 86 = .ok (.getfield 9, 3) := by decide +kernel
theorem d_M_result_89 : decode b_M_result 89 = .ok (.iload_n 3, 1) := by decide +kernel
theorem d_M_result_90 : decode b_M_result 90 = .ok (.iaload, 1) := by decide +kernel
theorem d_M_result_91 : decode b_M_result 91 = .ok (.i2l, 1) := by decide +kernel
theorem d_M_result_92 : decode b_M_result 92 = .ok (.ladd, 1) := by decide +kernel
theorem d_M_result_93 : decode b_M_result 93 = .ok (.invokestatic 36, 3) := by decide +kernel
theorem d_M_result_96 : decode b_M_result 96 = .ok (.ireturn, 1) := by decide +kernel
theorem d_M_result_97 : decode b_M_result 97 = .ok (.aload_n 0, 1) := by decide +kernel
theorem d_M_result_98 : decode b_M_result 98 = .ok (.getfield 9, 3) := by decide +kernel
theorem d_M_result_101 : decode b_M_result 101 = .ok (.iload_n 2, 1) := by decide +kernel
theorem d_M_result_102 : decode b_M_result 102 = .ok (.iaload, 1) := by decide +kernel
theorem d_M_result_103 : decode b_M_result 103 = .ok (.i2l, 1) := by decide +kernel
theorem d_M_result_104 : decode b_M_result 104 = .ok (.aload_n 0, 1) := by decide +kernel
theorem d_M_result_105 : decode b_M_result 105 = .ok (.getfield 9, 3) := by decide +kernel
theorem d_M_result_108 : decode b_M_result 108 = .ok (.iload_n 3, 1) := by decide +kernel
theorem d_M_result_109 : decode b_M_result 109 = .ok (.iaload, 1) := by decide +kernel
theorem d_M_result_110 : decode b_M_result 110 = .ok (.i2l, 1) := by decide +kernel
theorem d_M_result_111 : decode b_M_result 111 = .ok (.lsub, 1) := by decide +kernel
theorem d_M_result_112 : decode b_M_result 112 = .ok (.invokestatic 36, 3) := by decide +kernel
theorem d_M_result_115 : decode b_M_result 115 = .ok (.ireturn, 1) := by decide +kernel
theorem d_M_result_116 : decode b_M_result 116 = .ok (.aload_n 0, 1) := by decide +kernel
theorem d_M_result_117 : decode b_M_result 117 = .ok (.getfield 9, 3) := by decide +kernel
theorem d_M_result_120 : decode b_M_result 120 = .ok (.iload_n 2, 1) := by decide +kernel
theorem d_M_result_121 : decode b_M_result 121 = .ok (.iaload, 1) := by decide +kernel
theorem d_M_result_122 : decode b_M_result 122 = .ok (.i2l, 1) := by decide +kernel
theorem d_M_result_123 : decode b_M_result 123 = .ok (.aload_n 0, 1) := by decide +kernel
theorem d_M_result_124 : decode b_M_result 124 = .ok (.getfield 9, 3) := by decide +kernel
theorem d_M_result_127 : decode b_M_result 127 = .ok (.iload_n 3, 1) := by decide +kernel
theorem d_M_result_128 : decode b_M_result 128 = .ok (.iaload, 1) := by decide +kernel
theorem d_M_result_129 : decode b_M_result 129 = .ok (.i2l, 1) := by decide +kernel
theorem d_M_result_130 : decode b_M_result 130 = .ok (.lmul, 1) := by decide +kernel
theorem d_M_result_131 : decode b_M_result 131 = .ok (.ldc2_w 99, 3) := by decide +kernel
theorem d_M_result_134 : decode b_M_result 134 = .ok (.invokestatic 101, 3) := by decide +kernel
theorem d_M_result_137 : decode b_M_result 137 = .ok (.invokestatic 36, 3) := by decide +kernel
theorem d_M_result_140 : decode b_M_result 140 = .ok (.ireturn, 1) := by decide +kernel
theorem d_M_result_141 : decode b_M_result 141 = .ok (.aload_n 0, 1) := by decide +kernel
theorem d_M_result_142 : decode b_M_result 142 = .ok (.getfield 9, 3) := by decide +kernel
theorem d_M_result_145 : decode b_M_result 145 = .ok (.iload_n 2, 1) := by decide +kernel
theorem d_M_result_146 : decode b_M_result 146 = .ok (.iaload, 1) := by decide +kernel
theorem d_M_result_147 : decode b_M_result 147 = .ok (.aload_n 0, 1) := by decide +kernel
theorem d_M_result_148 : decode b_M_result 148 = .ok (.getfield 9, 3) := by decide +kernel
theorem d_M_result_151 : decode b_M_result 151 = .ok (.iload_n 3, 1) := by decide +kernel
theorem d_M_result_152 : decode b_M_result 152 = .ok (.iaload, 1) := by decide +kernel
theorem d_M_result_153 : decode b_M_result 153 = .ok (.if_icmp .ge 8, 3) := by decide +kernel
theorem d_M_result_156 : decode b_M_result 156 = .ok (.bipush 8, 2) := by decide +kernel
theorem d_M_result_158 : decode b_M_result 158 = .ok (.goto 4, 3) := by decide +kernel
theorem d_M_result_161 : decode b_M_result 161 = .ok (.iconst 0, 1) := by decide +kernel
theorem d_M_result_162 : decode b_M_result 162 = .ok (.ireturn, 1) := by decide +kernel
theorem d_M_result_163 : decode b_M_result 163 = .ok (.aload_n 0, 1) := by decide +kernel
theorem d_M_result_164 : decode b_M_result 164 = .ok (.getfield 9, 3) := by decide +kernel
theorem d_M_result_167 : decode b_M_result 167 = .ok (.iload_n 2, 1) := by decide +kernel
theorem d_M_result_168 : decode b_M_result 168 = .ok (.iaload, 1) := by decide +kernel
theorem d_M_result_169 : decode b_M_result 169 = .ok (.aload_n 0, 1) := by decide +kernel
theorem d_M_result_170 : decode b_M_result 170 = .ok (.getfield 9, 3) := by decide +kernel
theorem d_M_result_173 : decode b_M_result 173 = .ok (.iload_n 3, 1) := by decide +kernel
theorem d_M_result_174 : decode b_M_result 174 = .ok (.iaload, 1) := by decide +kernel
theorem d_M_result_175 : decode b_M_result 175 = .ok (.if_icmp .ne 8, 3) := by decide +kernel
theorem d_M_result_178 : decode b_M_result 178 = .ok (.bipush 8, 2) := by decide +kernel
theorem d_M_result_180 : decode b_M_result 180 = .ok (.goto 4, 3) := by decide +kernel
theorem d_M_result_183 : decode b_M_result 183 = .ok (.iconst 0, 1) := by decide +kernel
theorem d_M_result_184 : decode b_M_result 184 = .ok (.ireturn, 1) := by decide +kernel
theorem d_M_result_185 : decode b_M_result 185 = .ok (.aload_n 0, 1) := by decide +kernel
theorem d_M_result_186 : decode b_M_result 186 = .ok (.getfield 9, 3) := by decide +kernel
theorem d_M_result_189 : decode b_M_result 189 = .ok (.iload_n 2, 1) := by decide +kernel
theorem d_M_result_190 : decode b_M_result 190 = .ok (.iaload, 1) := by decide +kernel
theorem d_M_result_191 : decode b_M_result 191 = .ok (.ireturn, 1) := by decide +kernel
theorem d_M_result_192 : decode b_M_result 192 = .ok (.aload_n 0, 1) := by decide +kernel
theorem d_M_result_193 : decode b_M_result 193 = .ok (.getfield 25, 3) := by decide +kernel
theorem d_M_result_196 : decode b_M_result 196 = .ok (.aload_n 0, 1) := by decide +kernel
theorem d_M_result_197 : decode b_M_result 197 = .ok (.getfield 9, 3) := by decide +kernel
theorem d_M_result_200 : decode b_M_result 200 = .ok (.iload_n 2, 1) := by decide +kernel
theorem d_M_result_201 : decode b_M_result 201 = .ok (.iaload, 1) := by decide +kernel
theorem d_M_result_202 : decode b_M_result 202 = .ok (.invokestatic 79, 3) := by decide +kernel
theorem d_M_result_205 : decode b_M_result 205 = .ok (.iload_n 3, 1) := by decide +kernel
theorem d_M_result_206 : decode b_M_result 206 = .ok (.invokevirtual 107, 3) := by decide +kernel
theorem d_M_result_209 : decode b_M_result 209 = .ok (.ireturn, 1) := by decide +kernel
theorem d_M_result_210 : decode b_M_result 210 = .ok (.aload_n 0, 1) := by decide +kernel
theorem d_M_result_211 : decode b_M_result 211 = .ok (.getfield 25, 3) := by decide +kernel
theorem d_M_result_214 : decode b_M_result 214 = .ok (.invokevirtual 110, 3) := by decide +kernel
theorem d_M_result_217 : decode b_M_result 217 = .ok (.bipush 8, 2) := by decide +kernel
theorem d_M_result_219 : decode b_M_result 219 = .ok (.imul, 1) := by decide +kernel
theorem d_M_result_220 : decode b_M_result 220 = .ok (.ireturn, 1) := by decide +kernel
theorem d_M_result_221 : decode b_M_result 221 = .ok (.aload_n 0, 1) := by decide +kernel
theorem d_M_result_222 : decode b_M_result 222 = .ok (.getfield 25, 3) := by decide +kernel
theorem d_M_result_225 : decode b_M_result 225 = .ok (.aload_n 0, 1) := by decide +kernel
theorem d_M_result_226 : decode b_M_result 226 = .ok (.getfield 9, 3) := by decide +kernel
theorem d_M_result_229 : decode b_M_result 229 = .ok (.iload_n 2, 1) := by decide +kernel
theorem d_M_result_230 : decode b_M_result 230 = .ok (.iaload, 1) := by decide +kernel
theorem d_M_result_231 : decode b_M_result 231 = .ok (.invokestatic 79, 3) := by decide +kernel
theorem d_M_result_234 : decode b_M_result 234 = .ok (.invokevirtual 114, 3) := by decide +kernel
theorem d_M_result_237 : decode b_M_result 237 = .ok (.bipush 8, 2) := by decide +kernel
theorem d_M_result_239 : decode b_M_result 239 = .ok (.imul, 1) := by decide +kernel
theorem d_M_result_240 : decode b_M_result 240 = .ok (.ireturn, 1) := by decide +kernel
theorem d_M_result_241 : decode b_M_result 241 = .ok (.aload_n 0, 1) := by decide +kernel
theorem d_M_result_242 : decode b_M_result 242 = .ok (.invokevirtual 117, 3) := by decide +kernel
theorem d_M_result_245 : decode b_M_result 245 = .ok (.ireturn, 1) := by decide +kernel
def f_M_result (g : Sg) (a1 : Int32) (a2 : Int32) (a3 : Int32) : Option (Int32 × Sg) := (if a1 = 0 then (some (a3, g)) else (if a1 = 1 then (qs_in (a2) 24 (qs_in (a3) 24 (qs_pb (f_Q_inRange (((g 13 a2.toNatClampNeg).toInt64) + ((g 13 a3.toNatClampNeg).toInt64))) fun r5 => (some (r5, g))))) else (if a1 = 2 then (qs_in (a2) 24 (qs_in (a3) 24 (qs_pb (f_Q_inRange (((g 13 a2.toNatClampNeg).toInt64) - ((g 13 a3.toNatClampNeg).toInt64))) fun r9 => (some (r9, g))))) else (if a1 = 3 then (qs_in (a2) 24 (qs_in (a3) 24 (qs_pb (f_J_floorDiv_JJJ (((g 13 a2.toNatClampNeg).toInt64) * ((g 13 a3.toNatClampNeg).toInt64)) ((8 : Int64))) fun r13 => (qs_pb (f_Q_inRange (r13)) fun r14 => (some (r14, g)))))) else (if a1 = 4 then (qs_in (a2) 24 (qs_in (a3) 24 (if (g 13 a3.toNatClampNeg) ≤ (g 13 a2.toNatClampNeg) then (some (0, g)) else (some (8, g))))) else (if a1 = 5 then (qs_in (a2) 24 (qs_in (a3) 24 (if (g 13 a2.toNatClampNeg) = (g 13 a3.toNatClampNeg) then (some (8, g)) else (some (0, g))))) else (if a1 = 6 then (qs_in (a2) 24 (some (g 13 a2.toNatClampNeg, g))) else (if a1 = 7 then (qs_in (a2) 24 (qs_pb (f_Q_wholeOf (g 13 a2.toNatClampNeg)) fun r27 => (qs_bn (f_E_field g (r27) (a3)) fun r28 u29 => (some (r28, u29))))) else (if a1 = 8 then (qs_bn (f_M_draw g ) fun r31 u32 => (some (r31, u32))) else (if a1 = 9 then (qs_bn (f_M_draw g ) fun r34 u35 => (some (r34, u35))) else (if a1 = 10 then (qs_bn (f_M_draw g ) fun r37 u38 => (some (r37, u38))) else (if a1 = 11 then (qs_bn (f_M_draw g ) fun r40 u41 => (some (r40, u41))) else (if a1 = 12 then (qs_bn (f_E_create g ) fun r43 u44 => (some (r43 * 8, u44))) else (if a1 = 13 then (qs_bn (f_M_draw g ) fun r46 u47 => (some (r46, u47))) else (if a1 = 14 then (qs_in (a2) 24 (qs_pb (f_Q_wholeOf (g 13 a2.toNatClampNeg)) fun r50 => (qs_bn (f_E_firstBehind g (r50)) fun r51 u52 => (some (r51 * 8, u52))))) else (qs_bn (f_M_draw g ) fun r53 u54 => (some (r53, u54))))))))))))))))))
set_option maxHeartbeats 4000000 in
set_option maxRecDepth 100000 in
theorem c_M_result (l : Launch) (dC : Nat → ClassId) (dI : Nat → Nat → Nat) (h : Nat → Nat) (c : Nat → ClassId) (sz : Nat) (g : Sg) (a1 : Int32) (a2 : Int32) (a3 : Int32) (r0 : Int32) (u0 : Sg) (hF : f_M_result g a1 a2 a3 = some (r0, u0)) : Met l y_M_result (qs_ws y_M_result b_M_result 4 (some .int)) ({ frames := 1, cells := 0, slots := 0, locals := 25 } : Room) (va_Pc ([.ref (h 4), .int a1, .int a2, .int a3] : List Value) (fun U => U.heap.size = sz ∧ va_P (dC, dI) vwCl (qs_W h c g) U.heap ∧ va_K (dC, dI) vwCl (qs_T c) U ∧ va_D (fun _ => True) (qs_W h c g) ∧ qs_N U)) (va_Qi (fun (r : Int32) (u : Sg) => r = r0 ∧ u = u0) (qs_at dC dI h c (va_A (qs_W h c g) sz)) (va_A (qs_W h c g) sz)) 0 0 (va_A (qs_W h c g) sz) := by
  refine Met.ofW (cc := b_M_result) (maxL := 4) (ret := (some .int)) (by decide +kernel) rfl ?_
  intro p e s m args below meth cd s₁ B hml hv
  obtain ⟨rfl, hsz, hP, hK, hD0, hNs⟩ := hv
  have hx := B.exec
  have hb := B.bytes
  have hr := B.returns
  have hts := atoms_spec (ws := (qs_ws y_M_result b_M_result 4 (some .int))) B.pre
  have hg : ∀ w ∈ qs_gt, w.before _ s = true := fun w h => hts w (List.mem_cons_of_mem _ h)
  have hown : s.vm.findClass R_M = some m.cls := findClass_of_methodNamed B.named
  have hlocks := B.notSynchronized
  subst hsz
  have hD := hD0.self (sz := s.heap.size)
  generalize hAe : va_A (qs_W h c g) s.heap.size = A at hD ⊢
  have hA : ∀ q : Nat, s.heap.size ≤ q → A q := fun q h => by rw [← hAe]; exact Or.inr h
  have hS : va_S A s.heap s.heap [] := va_S.rf
  have hl := lv_entry ([.ref (h 4), .int a1, .int a2, .int a3] : List Value) (n := 4) (Nat.le_of_ble_eq_true rfl)
  rw [lg_entry_eq]
  generalize (lg_sl ([.ref (h 4), .int a1, .int a2, .int a3] : List Value) ++ List.replicate (4 - (lg_sl ([.ref (h 4), .int a1, .int a2, .int a3] : List Value)).length) Slot.unset).toArray = ls at hl ⊢
  have hl : lv_has ls 4 [(0, .ref (h 4)), (1, .int (a1)), (2, .int (a2)), (3, .int (a3))] := hl
  unfold f_M_result at hF
  obtain ⟨H, hHe⟩ : ∃ H, H = s.heap := ⟨_, rfl⟩
  obtain ⟨locs, hLe⟩ : ∃ L : List Loc, L = [] := ⟨_, rfl⟩
  rw [← hHe] at hP ⊢
  rw [← hLe]
  have hS : va_S A s.heap H locs := by rw [hHe, hLe]; exact hS
  refine lv_iload_n hx hb d_M_result_0 rfl (lv_at hl 1 rfl) ?_
  by_cases c1 : a1 = 0
  · have hF := qs_pos c1 hF
    refine lv_tableIn (tgt := 76) hx hb d_M_result_1 (by rw [c1]; decide) (by rw [c1]; decide) (by rw [c1]; rfl) (by decide) ?_
    refine lv_iload_n hx hb d_M_result_76 rfl (lv_at hl 3 rfl) ?_
    obtain ⟨h8, h9⟩ := qs_ret hF
    exact W.iret (v := a3) hx hb hr (fun t ht hW => ⟨⟨a3, g, rfl, ⟨h8, h9⟩, by rw [ht]; exact hP, va_K.moved hW.alike hK, hD⟩, hS.F ht⟩) hS.2.2 d_M_result_77
  have hF := qs_neg c1 hF
  by_cases c2 : a1 = 1
  · have hF := qs_pos c2 hF
    refine lv_tableIn (tgt := 78) hx hb d_M_result_1 (by rw [c2]; decide) (by rw [c2]; decide) (by rw [c2]; rfl) (by decide) ?_
    refine lv_aload_n hx hb d_M_result_78 rfl (lv_at hl 0 rfl) ?_
    refine va_get (D := (dC, dI)) (ci := 3) (v := .ref (h 13)) (C := R_M) (T := T_M) (N := 11) hx hb hg in_M hown hK hP 4 rfl rfl 2 (by decide) (hg _ t_79) (fun _ h9 => h9) rfl d_M_result_79 ?_
    refine lv_iload_n hx hb d_M_result_82 rfl (lv_at hl 2 rfl) ?_
    obtain ⟨c3, hF⟩ := qs_in_some hF
    refine va_iald hx hb hK hP 13 6 rfl rfl c3 d_M_result_83 ?_
    refine lv_i2l (v := (g 13 a2.toNatClampNeg).toInt64) hx hb d_M_result_84 rfl ?_
    refine lv_aload_n hx hb d_M_result_85 rfl (lv_at hl 0 rfl) ?_
    refine va_get (D := (dC, dI)) (ci := 3) (v := .ref (h 13)) (C := R_M) (T := T_M) (N := 11) hx hb hg in_M hown hK hP 4 rfl rfl 2 (by decide) (hg _ t_79) (fun _ h9 => h9) rfl d_M_result_86 ?_
    refine lv_iload_n hx hb d_M_result_89 rfl (lv_at hl 3 rfl) ?_
    obtain ⟨c4, hF⟩ := qs_in_some hF
    refine va_iald hx hb hK hP 13 6 rfl rfl c4 d_M_result_90 ?_
    refine lv_i2l (v := (g 13 a3.toNatClampNeg).toInt64) hx hb d_M_result_91 rfl ?_
    refine lv_ladd hx hb d_M_result_92 ?_
    obtain ⟨r5, hX, hF⟩ := qs_pb_some hF
    refine qs_psi (va_runSN (own := "QuakeServer$Machine") (As := [.long (((g 13 a2.toNatClampNeg).toInt64) + ((g 13 a3.toNatClampNeg).toInt64))]) (rest := []) ⟨hx, hb, hml, hown, hg⟩ (c_Q_inRange l H.size (((g 13 a2.toNatClampNeg).toInt64) + ((g 13 a3.toNatClampNeg).toInt64)) r5 hX) ⟨va_cnB (own := "QuakeServer$Machine") (index := 36) (host := "QuakeServer") 1 hg (qs_gc t_471) rfl rfl rfl (nM_6 hNs) (hg _ t_1) (by decide +kernel) ⟨Nat.le_of_ble_eq_true rfl, Nat.le_of_ble_eq_true rfl⟩, hg _ t_470, trivial⟩ ⟨qs_blind0, fun U hU hW => ⟨rfl, by rw [hU], hNs.warm hW⟩⟩ rfl rfl hl.1 rfl (lv_room (Nat.le_of_ble_eq_true rfl)) d_M_result_93 ⟨Nat.le_of_ble_eq_true rfl, Nat.le_of_ble_eq_true rfl⟩) hP hD hS hA (fun H locs hP hS => ?_)
    obtain ⟨h8, h9⟩ := qs_ret hF
    exact W.iret (v := r5) hx hb hr (fun t ht hW => ⟨⟨r5, g, rfl, ⟨h8, h9⟩, by rw [ht]; exact hP, va_K.moved hW.alike hK, hD⟩, hS.F ht⟩) hS.2.2 d_M_result_96
  have hF := qs_neg c2 hF
  by_cases c6 : a1 = 2
  · have hF := qs_pos c6 hF
    refine lv_tableIn (tgt := 97) hx hb d_M_result_1 (by rw [c6]; decide) (by rw [c6]; decide) (by rw [c6]; rfl) (by decide) ?_
    refine lv_aload_n hx hb d_M_result_97 rfl (lv_at hl 0 rfl) ?_
    refine va_get (D := (dC, dI)) (ci := 3) (v := .ref (h 13)) (C := R_M) (T := T_M) (N := 11) hx hb hg in_M hown hK hP 4 rfl rfl 2 (by decide) (hg _ t_79) (fun _ h9 => h9) rfl d_M_result_98 ?_
    refine lv_iload_n hx hb d_M_result_101 rfl (lv_at hl 2 rfl) ?_
    obtain ⟨c7, hF⟩ := qs_in_some hF
    refine va_iald hx hb hK hP 13 6 rfl rfl c7 d_M_result_102 ?_
    refine lv_i2l (v := (g 13 a2.toNatClampNeg).toInt64) hx hb d_M_result_103 rfl ?_
    refine lv_aload_n hx hb d_M_result_104 rfl (lv_at hl 0 rfl) ?_
    refine va_get (D := (dC, dI)) (ci := 3) (v := .ref (h 13)) (C := R_M) (T := T_M) (N := 11) hx hb hg in_M hown hK hP 4 rfl rfl 2 (by decide) (hg _ t_79) (fun _ h9 => h9) rfl d_M_result_105 ?_
    refine lv_iload_n hx hb d_M_result_108 rfl (lv_at hl 3 rfl) ?_
    obtain ⟨c8, hF⟩ := qs_in_some hF
    refine va_iald hx hb hK hP 13 6 rfl rfl c8 d_M_result_109 ?_
    refine lv_i2l (v := (g 13 a3.toNatClampNeg).toInt64) hx hb d_M_result_110 rfl ?_
    refine lv_lsub hx hb d_M_result_111 ?_
    obtain ⟨r9, hX, hF⟩ := qs_pb_some hF
    refine qs_psi (va_runSN (own := "QuakeServer$Machine") (As := [.long (((g 13 a2.toNatClampNeg).toInt64) - ((g 13 a3.toNatClampNeg).toInt64))]) (rest := []) ⟨hx, hb, hml, hown, hg⟩ (c_Q_inRange l H.size (((g 13 a2.toNatClampNeg).toInt64) - ((g 13 a3.toNatClampNeg).toInt64)) r9 hX) ⟨va_cnB (own := "QuakeServer$Machine") (index := 36) (host := "QuakeServer") 1 hg (qs_gc t_471) rfl rfl rfl (nM_6 hNs) (hg _ t_1) (by decide +kernel) ⟨Nat.le_of_ble_eq_true rfl, Nat.le_of_ble_eq_true rfl⟩, hg _ t_470, trivial⟩ ⟨qs_blind0, fun U hU hW => ⟨rfl, by rw [hU], hNs.warm hW⟩⟩ rfl rfl hl.1 rfl (lv_room (Nat.le_of_ble_eq_true rfl)) d_M_result_112 ⟨Nat.le_of_ble_eq_true rfl, Nat.le_of_ble_eq_true rfl⟩) hP hD hS hA (fun H locs hP hS => ?_)
    obtain ⟨h8, h9⟩ := qs_ret hF
    exact W.iret (v := r9) hx hb hr (fun t ht hW => ⟨⟨r9, g, rfl, ⟨h8, h9⟩, by rw [ht]; exact hP, va_K.moved hW.alike hK, hD⟩, hS.F ht⟩) hS.2.2 d_M_result_115
  have hF := qs_neg c6 hF
  by_cases c10 : a1 = 3
  · have hF := qs_pos c10 hF
    refine lv_tableIn (tgt := 116) hx hb d_M_result_1 (by rw [c10]; decide) (by rw [c10]; decide) (by rw [c10]; rfl) (by decide) ?_
    refine lv_aload_n hx hb d_M_result_116 rfl (lv_at hl 0 rfl) ?_
    refine va_get (D := (dC, dI)) (ci := 3) (v := .ref (h 13)) (C := R_M) (T := T_M) (N := 11) hx hb hg in_M hown hK hP 4 rfl rfl 2 (by decide) (hg _ t_79) (fun _ h9 => h9) rfl d_M_result_117 ?_
    refine lv_iload_n hx hb d_M_result_120 rfl (lv_at hl 2 rfl) ?_
    obtain ⟨c11, hF⟩ := qs_in_some hF
    refine va_iald hx hb hK hP 13 6 rfl rfl c11 d_M_result_121 ?_
    refine lv_i2l (v := (g 13 a2.toNatClampNeg).toInt64) hx hb d_M_result_122 rfl ?_
    refine lv_aload_n hx hb d_M_result_123 rfl (lv_at hl 0 rfl) ?_
    refine va_get (D := (dC, dI)) (ci := 3) (v := .ref (h 13)) (C := R_M) (T := T_M) (N := 11) hx hb hg in_M hown hK hP 4 rfl rfl 2 (by decide) (hg _ t_79) (fun _ h9 => h9) rfl d_M_result_124 ?_
    refine lv_iload_n hx hb d_M_result_127 rfl (lv_at hl 3 rfl) ?_
    obtain ⟨c12, hF⟩ := qs_in_some hF
    refine va_iald hx hb hK hP 13 6 rfl rfl c12 d_M_result_128 ?_
    refine lv_i2l (v := (g 13 a3.toNatClampNeg).toInt64) hx hb d_M_result_129 rfl ?_
    refine lv_lmul hx hb d_M_result_130 ?_
    refine lv_ldc2 (v := 8) hx hb hown (hg _ t_474) d_M_result_131 ?_
    obtain ⟨r13, hX, hF⟩ := qs_pb_some hF
    refine qs_psl (va_runS (own := "QuakeServer$Machine") (As := [.long (((g 13 a2.toNatClampNeg).toInt64) * ((g 13 a3.toNatClampNeg).toInt64)), .long ((8 : Int64))]) (rest := []) ⟨hx, hb, hml, hown, hg⟩ (c_J_floorDiv_JJJ l H.size (((g 13 a2.toNatClampNeg).toInt64) * ((g 13 a3.toNatClampNeg).toInt64)) ((8 : Int64)) r13 hX) (va_cwS 2 hg (qs_gS t_475 t_476 t_15 t_477) rfl rfl rfl (by decide +kernel) ⟨Nat.le_of_ble_eq_true rfl, Nat.le_of_ble_eq_true rfl⟩) ⟨qs_blind0, fun U hU hW => ⟨rfl, by rw [hU], hNs.warm hW⟩⟩ rfl rfl hl.1 rfl (lv_room (Nat.le_of_ble_eq_true rfl)) d_M_result_134 ⟨Nat.le_of_ble_eq_true rfl, Nat.le_of_ble_eq_true rfl⟩) hP hD hS hA (fun H locs hP hS => ?_)
    obtain ⟨r14, hX, hF⟩ := qs_pb_some hF
    refine qs_psi (va_runSN (own := "QuakeServer$Machine") (As := [.long (r13)]) (rest := []) ⟨hx, hb, hml, hown, hg⟩ (c_Q_inRange l H.size (r13) r14 hX) ⟨va_cnB (own := "QuakeServer$Machine") (index := 36) (host := "QuakeServer") 1 hg (qs_gc t_471) rfl rfl rfl (nM_6 hNs) (hg _ t_1) (by decide +kernel) ⟨Nat.le_of_ble_eq_true rfl, Nat.le_of_ble_eq_true rfl⟩, hg _ t_470, trivial⟩ ⟨qs_blind0, fun U hU hW => ⟨rfl, by rw [hU], hNs.warm hW⟩⟩ rfl rfl hl.1 rfl (lv_room (Nat.le_of_ble_eq_true rfl)) d_M_result_137 ⟨Nat.le_of_ble_eq_true rfl, Nat.le_of_ble_eq_true rfl⟩) hP hD hS hA (fun H locs hP hS => ?_)
    obtain ⟨h8, h9⟩ := qs_ret hF
    exact W.iret (v := r14) hx hb hr (fun t ht hW => ⟨⟨r14, g, rfl, ⟨h8, h9⟩, by rw [ht]; exact hP, va_K.moved hW.alike hK, hD⟩, hS.F ht⟩) hS.2.2 d_M_result_140
  have hF := qs_neg c10 hF
  by_cases c15 : a1 = 4
  · have hF := qs_pos c15 hF
    refine lv_tableIn (tgt := 141) hx hb d_M_result_1 (by rw [c15]; decide) (by rw [c15]; decide) (by rw [c15]; rfl) (by decide) ?_
    refine lv_aload_n hx hb d_M_result_141 rfl (lv_at hl 0 rfl) ?_
    refine va_get (D := (dC, dI)) (ci := 3) (v := .ref (h 13)) (C := R_M) (T := T_M) (N := 11) hx hb hg in_M hown hK hP 4 rfl rfl 2 (by decide) (hg _ t_79) (fun _ h9 => h9) rfl d_M_result_142 ?_
    refine lv_iload_n hx hb d_M_result_145 rfl (lv_at hl 2 rfl) ?_
    obtain ⟨c16, hF⟩ := qs_in_some hF
    refine va_iald hx hb hK hP 13 6 rfl rfl c16 d_M_result_146 ?_
    refine lv_aload_n hx hb d_M_result_147 rfl (lv_at hl 0 rfl) ?_
    refine va_get (D := (dC, dI)) (ci := 3) (v := .ref (h 13)) (C := R_M) (T := T_M) (N := 11) hx hb hg in_M hown hK hP 4 rfl rfl 2 (by decide) (hg _ t_79) (fun _ h9 => h9) rfl d_M_result_148 ?_
    refine lv_iload_n hx hb d_M_result_151 rfl (lv_at hl 3 rfl) ?_
    obtain ⟨c17, hF⟩ := qs_in_some hF
    refine va_iald hx hb hK hP 13 6 rfl rfl c17 d_M_result_152 ?_
    refine lv_icmp_ge (tgt := 161) hx hb d_M_result_153 (by decide) (fun c18 => ?_) (fun c18 => ?_)
    · have hF := qs_pos c18 hF
      refine lv_iconst (v := 0) hx hb d_M_result_161 (by decide) ?_
      obtain ⟨h8, h9⟩ := qs_ret hF
      exact W.iret (v := 0) hx hb hr (fun t ht hW => ⟨⟨0, g, rfl, ⟨h8, h9⟩, by rw [ht]; exact hP, va_K.moved hW.alike hK, hD⟩, hS.F ht⟩) hS.2.2 d_M_result_162
    · have hF := qs_neg c18 hF
      refine lv_bipush (v := 8) hx hb d_M_result_156 (by decide) ?_
      refine lv_goto (tgt := 162) hx hb d_M_result_158 (by decide) ?_
      obtain ⟨h8, h9⟩ := qs_ret hF
      exact W.iret (v := 8) hx hb hr (fun t ht hW => ⟨⟨8, g, rfl, ⟨h8, h9⟩, by rw [ht]; exact hP, va_K.moved hW.alike hK, hD⟩, hS.F ht⟩) hS.2.2 d_M_result_162
  have hF := qs_neg c15 hF
  by_cases c19 : a1 = 5
  · have hF := qs_pos c19 hF
    refine lv_tableIn (tgt := 163) hx hb d_M_result_1 (by rw [c19]; decide) (by rw [c19]; decide) (by rw [c19]; rfl) (by decide) ?_
    refine lv_aload_n hx hb d_M_result_163 rfl (lv_at hl 0 rfl) ?_
    refine va_get (D := (dC, dI)) (ci := 3) (v := .ref (h 13)) (C := R_M) (T := T_M) (N := 11) hx hb hg in_M hown hK hP 4 rfl rfl 2 (by decide) (hg _ t_79) (fun _ h9 => h9) rfl d_M_result_164 ?_
    refine lv_iload_n hx hb d_M_result_167 rfl (lv_at hl 2 rfl) ?_
    obtain ⟨c20, hF⟩ := qs_in_some hF
    refine va_iald hx hb hK hP 13 6 rfl rfl c20 d_M_result_168 ?_
    refine lv_aload_n hx hb d_M_result_169 rfl (lv_at hl 0 rfl) ?_
    refine va_get (D := (dC, dI)) (ci := 3) (v := .ref (h 13)) (C := R_M) (T := T_M) (N := 11) hx hb hg in_M hown hK hP 4 rfl rfl 2 (by decide) (hg _ t_79) (fun _ h9 => h9) rfl d_M_result_170 ?_
    refine lv_iload_n hx hb d_M_result_173 rfl (lv_at hl 3 rfl) ?_
    obtain ⟨c21, hF⟩ := qs_in_some hF
    refine va_iald hx hb hK hP 13 6 rfl rfl c21 d_M_result_174 ?_
    refine lv_icmp_ne (tgt := 183) hx hb d_M_result_175 (by decide) (fun c22 => ?_) (fun c22 => ?_)
    · have hF := qs_neg c22 hF
      refine lv_iconst (v := 0) hx hb d_M_result_183 (by decide) ?_
      obtain ⟨h8, h9⟩ := qs_ret hF
      exact W.iret (v := 0) hx hb hr (fun t ht hW => ⟨⟨0, g, rfl, ⟨h8, h9⟩, by rw [ht]; exact hP, va_K.moved hW.alike hK, hD⟩, hS.F ht⟩) hS.2.2 d_M_result_184
    · have hF := qs_pos c22 hF
      refine lv_bipush (v := 8) hx hb d_M_result_178 (by decide) ?_
      refine lv_goto (tgt := 184) hx hb d_M_result_180 (by decide) ?_
      obtain ⟨h8, h9⟩ := qs_ret hF
      exact W.iret (v := 8) hx hb hr (fun t ht hW => ⟨⟨8, g, rfl, ⟨h8, h9⟩, by rw [ht]; exact hP, va_K.moved hW.alike hK, hD⟩, hS.F ht⟩) hS.2.2 d_M_result_184
  have hF := qs_neg c19 hF
  by_cases c23 : a1 = 6
  · have hF := qs_pos c23 hF
    refine lv_tableIn (tgt := 185) hx hb d_M_result_1 (by rw [c23]; decide) (by rw [c23]; decide) (by rw [c23]; rfl) (by decide) ?_
    refine lv_aload_n hx hb d_M_result_185 rfl (lv_at hl 0 rfl) ?_
    refine va_get (D := (dC, dI)) (ci := 3) (v := .ref (h 13)) (C := R_M) (T := T_M) (N := 11) hx hb hg in_M hown hK hP 4 rfl rfl 2 (by decide) (hg _ t_79) (fun _ h9 => h9) rfl d_M_result_186 ?_
    refine lv_iload_n hx hb d_M_result_189 rfl (lv_at hl 2 rfl) ?_
    obtain ⟨c24, hF⟩ := qs_in_some hF
    refine va_iald hx hb hK hP 13 6 rfl rfl c24 d_M_result_190 ?_
    obtain ⟨h8, h9⟩ := qs_ret hF
    exact W.iret (v := g 13 a2.toNatClampNeg) hx hb hr (fun t ht hW => ⟨⟨(g 13 a2.toNatClampNeg), g, rfl, ⟨h8, h9⟩, by rw [ht]; exact hP, va_K.moved hW.alike hK, hD⟩, hS.F ht⟩) hS.2.2 d_M_result_191
  have hF := qs_neg c23 hF
  by_cases c25 : a1 = 7
  · have hF := qs_pos c25 hF
    refine lv_tableIn (tgt := 192) hx hb d_M_result_1 (by rw [c25]; decide) (by rw [c25]; decide) (by rw [c25]; rfl) (by decide) ?_
    refine lv_aload_n hx hb d_M_result_192 rfl (lv_at hl 0 rfl) ?_
    refine va_get (D := (dC, dI)) (ci := 3) (v := .ref (h 1)) (C := R_M) (T := T_M) (N := 11) hx hb hg in_M hown hK hP 4 rfl rfl 0 (by decide) (hg _ t_77) (fun _ h9 => h9) rfl d_M_result_193 ?_
    refine lv_aload_n hx hb d_M_result_196 rfl (lv_at hl 0 rfl) ?_
    refine va_get (D := (dC, dI)) (ci := 3) (v := .ref (h 13)) (C := R_M) (T := T_M) (N := 11) hx hb hg in_M hown hK hP 4 rfl rfl 2 (by decide) (hg _ t_79) (fun _ h9 => h9) rfl d_M_result_197 ?_
    refine lv_iload_n hx hb d_M_result_200 rfl (lv_at hl 2 rfl) ?_
    obtain ⟨c26, hF⟩ := qs_in_some hF
    refine va_iald hx hb hK hP 13 6 rfl rfl c26 d_M_result_201 ?_
    obtain ⟨r27, hX, hF⟩ := qs_pb_some hF
    refine qs_psi (va_runSN (own := "QuakeServer$Machine") (As := [.int (g 13 a2.toNatClampNeg)]) (rest := [.ref (h 1)]) ⟨hx, hb, hml, hown, hg⟩ (c_Q_wholeOf l H.size (g 13 a2.toNatClampNeg) r27 hX) ⟨va_cnB (own := "QuakeServer$Machine") (index := 79) (host := "QuakeServer") 1 hg (qs_gc t_458) rfl rfl rfl (nM_5 hNs) (hg _ t_1) (by decide +kernel) ⟨Nat.le_of_ble_eq_true rfl, Nat.le_of_ble_eq_true rfl⟩, hg _ t_457, trivial⟩ ⟨qs_blind0, fun U hU hW => ⟨rfl, by rw [hU], hNs.warm hW⟩⟩ rfl rfl hl.1 rfl (lv_room (Nat.le_of_ble_eq_true rfl)) d_M_result_202 ⟨Nat.le_of_ble_eq_true rfl, Nat.le_of_ble_eq_true rfl⟩) hP hD hS hA (fun H locs hP hS => ?_)
    refine lv_iload_n hx hb d_M_result_205 rfl (lv_at hl 3 rfl) ?_
    obtain ⟨r28, u29, hX, hF⟩ := qs_bn_some hF
    refine qs_ci (Wd := qs_W h c) (isC := [0, 1, 2, 3, 4, 5, 6, 7, 8, 9, 10, 11, 12, 13, 14, 15, 16]) (va_runV (own := "QuakeServer$Machine") (C := "QuakeServer$Entities") (As := [.int (r27), .int (a3)]) (rest := []) ⟨hx, hb, hml, hown, hg⟩ (c_E_field l dC dI h c H.size g (r27) (a3) r28 u29 hX) (cwV 2 hg (qs_gV t_478 t_192 t_193 t_2 t_194) rfl rfl rfl (by decide +kernel) ⟨Nat.le_of_ble_eq_true rfl, Nat.le_of_ble_eq_true rfl⟩) ⟨qs_blind, va_recv hK hP (ci := 0) (q0 := 1) rfl rfl, fun U hU hW => ⟨rfl, by rw [hU], by rw [hU]; exact hP, va_K.moved hW.alike hK, hD.weaken (fun _ _ _ _ => trivial), hNs.warm hW⟩⟩ rfl rfl hl.1 rfl (lv_room (Nat.le_of_ble_eq_true rfl)) d_M_result_206 ⟨Nat.le_of_ble_eq_true rfl, Nat.le_of_ble_eq_true rfl⟩) rfl hP hD hS hA (fun H locs hP hD hS => ?_)
    obtain ⟨h8, h9⟩ := qs_ret hF
    exact W.iret (v := r28) hx hb hr (fun t ht hW => ⟨⟨r28, u29, rfl, ⟨h8, h9⟩, by rw [ht]; exact hP, va_K.moved hW.alike hK, hD⟩, hS.F ht⟩) hS.2.2 d_M_result_209
  have hF := qs_neg c25 hF
  by_cases c30 : a1 = 8
  · have hF := qs_pos c30 hF
    refine lv_tableIn (tgt := 241) hx hb d_M_result_1 (by rw [c30]; decide) (by rw [c30]; decide) (by rw [c30]; rfl) (by decide) ?_
    refine lv_aload_n hx hb d_M_result_241 rfl (lv_at hl 0 rfl) ?_
    obtain ⟨r31, u32, hX, hF⟩ := qs_bn_some hF
    refine qs_ci (Wd := qs_W h c) (isC := [0, 1, 2, 3, 4, 5, 6, 7, 8, 9, 10, 11, 12, 13, 14, 15, 16]) (va_runV (own := "QuakeServer$Machine") (C := "QuakeServer$Machine") (As := []) (rest := []) ⟨hx, hb, hml, hown, hg⟩ (c_M_draw l dC dI h c H.size g  r31 u32 hX) (cwV 0 hg (qs_gV t_484 t_486 tp_7 t_5 t_487) rfl rfl rfl (by decide +kernel) ⟨Nat.le_of_ble_eq_true rfl, Nat.le_of_ble_eq_true rfl⟩) ⟨qs_blind, va_recv hK hP (ci := 3) (q0 := 4) rfl rfl, fun U hU hW => ⟨rfl, by rw [hU], by rw [hU]; exact hP, va_K.moved hW.alike hK, hD.weaken (fun _ _ _ _ => trivial), hNs.warm hW⟩⟩ rfl rfl hl.1 rfl (lv_room (Nat.le_of_ble_eq_true rfl)) d_M_result_242 ⟨Nat.le_of_ble_eq_true rfl, Nat.le_of_ble_eq_true rfl⟩) rfl hP hD hS hA (fun H locs hP hD hS => ?_)
    obtain ⟨h8, h9⟩ := qs_ret hF
    exact W.iret (v := r31) hx hb hr (fun t ht hW => ⟨⟨r31, u32, rfl, ⟨h8, h9⟩, by rw [ht]; exact hP, va_K.moved hW.alike hK, hD⟩, hS.F ht⟩) hS.2.2 d_M_result_245
  have hF := qs_neg c30 hF
  by_cases c33 : a1 = 9
  · have hF := qs_pos c33 hF
    refine lv_tableIn (tgt := 241) hx hb d_M_result_1 (by rw [c33]; decide) (by rw [c33]; decide) (by rw [c33]; rfl) (by decide) ?_
    refine lv_aload_n hx hb d_M_result_241 rfl (lv_at hl 0 rfl) ?_
    obtain ⟨r34, u35, hX, hF⟩ := qs_bn_some hF
    refine qs_ci (Wd := qs_W h c) (isC := [0, 1, 2, 3, 4, 5, 6, 7, 8, 9, 10, 11, 12, 13, 14, 15, 16]) (va_runV (own := "QuakeServer$Machine") (C := "QuakeServer$Machine") (As := []) (rest := []) ⟨hx, hb, hml, hown, hg⟩ (c_M_draw l dC dI h c H.size g  r34 u35 hX) (cwV 0 hg (qs_gV t_484 t_486 tp_7 t_5 t_487) rfl rfl rfl (by decide +kernel) ⟨Nat.le_of_ble_eq_true rfl, Nat.le_of_ble_eq_true rfl⟩) ⟨qs_blind, va_recv hK hP (ci := 3) (q0 := 4) rfl rfl, fun U hU hW => ⟨rfl, by rw [hU], by rw [hU]; exact hP, va_K.moved hW.alike hK, hD.weaken (fun _ _ _ _ => trivial), hNs.warm hW⟩⟩ rfl rfl hl.1 rfl (lv_room (Nat.le_of_ble_eq_true rfl)) d_M_result_242 ⟨Nat.le_of_ble_eq_true rfl, Nat.le_of_ble_eq_true rfl⟩) rfl hP hD hS hA (fun H locs hP hD hS => ?_)
    obtain ⟨h8, h9⟩ := qs_ret hF
    exact W.iret (v := r34) hx hb hr (fun t ht hW => ⟨⟨r34, u35, rfl, ⟨h8, h9⟩, by rw [ht]; exact hP, va_K.moved hW.alike hK, hD⟩, hS.F ht⟩) hS.2.2 d_M_result_245
  have hF := qs_neg c33 hF
  by_cases c36 : a1 = 10
  · have hF := qs_pos c36 hF
    refine lv_tableIn (tgt := 241) hx hb d_M_result_1 (by rw [c36]; decide) (by rw [c36]; decide) (by rw [c36]; rfl) (by decide) ?_
    refine lv_aload_n hx hb d_M_result_241 rfl (lv_at hl 0 rfl) ?_
    obtain ⟨r37, u38, hX, hF⟩ := qs_bn_some hF
    refine qs_ci (Wd := qs_W h c) (isC := [0, 1, 2, 3, 4, 5, 6, 7, 8, 9, 10, 11, 12, 13, 14, 15, 16]) (va_runV (own := "QuakeServer$Machine") (C := "QuakeServer$Machine") (As := []) (rest := []) ⟨hx, hb, hml, hown, hg⟩ (c_M_draw l dC dI h c H.size g  r37 u38 hX) (cwV 0 hg (qs_gV t_484 t_486 tp_7 t_5 t_487) rfl rfl rfl (by decide +kernel) ⟨Nat.le_of_ble_eq_true rfl, Nat.le_of_ble_eq_true rfl⟩) ⟨qs_blind, va_recv hK hP (ci := 3) (q0 := 4) rfl rfl, fun U hU hW => ⟨rfl, by rw [hU], by rw [hU]; exact hP, va_K.moved hW.alike hK, hD.weaken (fun _ _ _ _ => trivial), hNs.warm hW⟩⟩ rfl rfl hl.1 rfl (lv_room (Nat.le_of_ble_eq_true rfl)) d_M_result_242 ⟨Nat.le_of_ble_eq_true rfl, Nat.le_of_ble_eq_true rfl⟩) rfl hP hD hS hA (fun H locs hP hD hS => ?_)
    obtain ⟨h8, h9⟩ := qs_ret hF
    exact W.iret (v := r37) hx hb hr (fun t ht hW => ⟨⟨r37, u38, rfl, ⟨h8, h9⟩, by rw [ht]; exact hP, va_K.moved hW.alike hK, hD⟩, hS.F ht⟩) hS.2.2 d_M_result_245
  have hF := qs_neg c36 hF
  by_cases c39 : a1 = 11
  · have hF := qs_pos c39 hF
    refine lv_tableIn (tgt := 241) hx hb d_M_result_1 (by rw [c39]; decide) (by rw [c39]; decide) (by rw [c39]; rfl) (by decide) ?_
    refine lv_aload_n hx hb d_M_result_241 rfl (lv_at hl 0 rfl) ?_
    obtain ⟨r40, u41, hX, hF⟩ := qs_bn_some hF
    refine qs_ci (Wd := qs_W h c) (isC := [0, 1, 2, 3, 4, 5, 6, 7, 8, 9, 10, 11, 12, 13, 14, 15, 16]) (va_runV (own := "QuakeServer$Machine") (C := "QuakeServer$Machine") (As := []) (rest := []) ⟨hx, hb, hml, hown, hg⟩ (c_M_draw l dC dI h c H.size g  r40 u41 hX) (cwV 0 hg (qs_gV t_484 t_486 tp_7 t_5 t_487) rfl rfl rfl (by decide +kernel) ⟨Nat.le_of_ble_eq_true rfl, Nat.le_of_ble_eq_true rfl⟩) ⟨qs_blind, va_recv hK hP (ci := 3) (q0 := 4) rfl rfl, fun U hU hW => ⟨rfl, by rw [hU], by rw [hU]; exact hP, va_K.moved hW.alike hK, hD.weaken (fun _ _ _ _ => trivial), hNs.warm hW⟩⟩ rfl rfl hl.1 rfl (lv_room (Nat.le_of_ble_eq_true rfl)) d_M_result_242 ⟨Nat.le_of_ble_eq_true rfl, Nat.le_of_ble_eq_true rfl⟩) rfl hP hD hS hA (fun H locs hP hD hS => ?_)
    obtain ⟨h8, h9⟩ := qs_ret hF
    exact W.iret (v := r40) hx hb hr (fun t ht hW => ⟨⟨r40, u41, rfl, ⟨h8, h9⟩, by rw [ht]; exact hP, va_K.moved hW.alike hK, hD⟩, hS.F ht⟩) hS.2.2 d_M_result_245
  have hF := qs_neg c39 hF
  by_cases c42 : a1 = 12
  · have hF := qs_pos c42 hF
    refine lv_tableIn (tgt := 210) hx hb d_M_result_1 (by rw [c42]; decide) (by rw [c42]; decide) (by rw [c42]; rfl) (by decide) ?_
    refine lv_aload_n hx hb d_M_result_210 rfl (lv_at hl 0 rfl) ?_
    refine va_get (D := (dC, dI)) (ci := 3) (v := .ref (h 1)) (C := R_M) (T := T_M) (N := 11) hx hb hg in_M hown hK hP 4 rfl rfl 0 (by decide) (hg _ t_77) (fun _ h9 => h9) rfl d_M_result_211 ?_
    obtain ⟨r43, u44, hX, hF⟩ := qs_bn_some hF
    refine qs_ci (Wd := qs_W h c) (isC := [0, 1, 2, 3, 4, 5, 6, 7, 8, 9, 10, 11, 12, 13, 14, 15, 16]) (va_runV (own := "QuakeServer$Machine") (C := "QuakeServer$Entities") (As := []) (rest := []) ⟨hx, hb, hml, hown, hg⟩ (c_E_create l dC dI h c H.size g  r43 u44 hX) (cwV 0 hg (qs_gV t_479 t_346 t_347 t_2 t_348) rfl rfl rfl (by decide +kernel) ⟨Nat.le_of_ble_eq_true rfl, Nat.le_of_ble_eq_true rfl⟩) ⟨qs_blind, va_recv hK hP (ci := 0) (q0 := 1) rfl rfl, fun U hU hW => ⟨rfl, by rw [hU], by rw [hU]; exact hP, va_K.moved hW.alike hK, hD.weaken (fun _ _ _ _ => trivial), hNs.warm hW⟩⟩ rfl rfl hl.1 rfl (lv_room (Nat.le_of_ble_eq_true rfl)) d_M_result_214 ⟨Nat.le_of_ble_eq_true rfl, Nat.le_of_ble_eq_true rfl⟩) rfl hP hD hS hA (fun H locs hP hD hS => ?_)
    refine lv_bipush (v := 8) hx hb d_M_result_217 (by decide) ?_
    refine lv_imul hx hb d_M_result_219 ?_
    obtain ⟨h8, h9⟩ := qs_ret hF
    exact W.iret (v := r43 * 8) hx hb hr (fun t ht hW => ⟨⟨(r43 * 8), u44, rfl, ⟨h8, h9⟩, by rw [ht]; exact hP, va_K.moved hW.alike hK, hD⟩, hS.F ht⟩) hS.2.2 d_M_result_220
  have hF := qs_neg c42 hF
  by_cases c45 : a1 = 13
  · have hF := qs_pos c45 hF
    refine lv_tableIn (tgt := 241) hx hb d_M_result_1 (by rw [c45]; decide) (by rw [c45]; decide) (by rw [c45]; rfl) (by decide) ?_
    refine lv_aload_n hx hb d_M_result_241 rfl (lv_at hl 0 rfl) ?_
    obtain ⟨r46, u47, hX, hF⟩ := qs_bn_some hF
    refine qs_ci (Wd := qs_W h c) (isC := [0, 1, 2, 3, 4, 5, 6, 7, 8, 9, 10, 11, 12, 13, 14, 15, 16]) (va_runV (own := "QuakeServer$Machine") (C := "QuakeServer$Machine") (As := []) (rest := []) ⟨hx, hb, hml, hown, hg⟩ (c_M_draw l dC dI h c H.size g  r46 u47 hX) (cwV 0 hg (qs_gV t_484 t_486 tp_7 t_5 t_487) rfl rfl rfl (by decide +kernel) ⟨Nat.le_of_ble_eq_true rfl, Nat.le_of_ble_eq_true rfl⟩) ⟨qs_blind, va_recv hK hP (ci := 3) (q0 := 4) rfl rfl, fun U hU hW => ⟨rfl, by rw [hU], by rw [hU]; exact hP, va_K.moved hW.alike hK, hD.weaken (fun _ _ _ _ => trivial), hNs.warm hW⟩⟩ rfl rfl hl.1 rfl (lv_room (Nat.le_of_ble_eq_true rfl)) d_M_result_242 ⟨Nat.le_of_ble_eq_true rfl, Nat.le_of_ble_eq_true rfl⟩) rfl hP hD hS hA (fun H locs hP hD hS => ?_)
    obtain ⟨h8, h9⟩ := qs_ret hF
    exact W.iret (v := r46) hx hb hr (fun t ht hW => ⟨⟨r46, u47, rfl, ⟨h8, h9⟩, by rw [ht]; exact hP, va_K.moved hW.alike hK, hD⟩, hS.F ht⟩) hS.2.2 d_M_result_245
  have hF := qs_neg c45 hF
  by_cases c48 : a1 = 14
  · have hF := qs_pos c48 hF
    refine lv_tableIn (tgt := 221) hx hb d_M_result_1 (by rw [c48]; decide) (by rw [c48]; decide) (by rw [c48]; rfl) (by decide) ?_
    refine lv_aload_n hx hb d_M_result_221 rfl (lv_at hl 0 rfl) ?_
    refine va_get (D := (dC, dI)) (ci := 3) (v := .ref (h 1)) (C := R_M) (T := T_M) (N := 11) hx hb hg in_M hown hK hP 4 rfl rfl 0 (by decide) (hg _ t_77) (fun _ h9 => h9) rfl d_M_result_222 ?_
    refine lv_aload_n hx hb d_M_result_225 rfl (lv_at hl 0 rfl) ?_
    refine va_get (D := (dC, dI)) (ci := 3) (v := .ref (h 13)) (C := R_M) (T := T_M) (N := 11) hx hb hg in_M hown hK hP 4 rfl rfl 2 (by decide) (hg _ t_79) (fun _ h9 => h9) rfl d_M_result_226 ?_
    refine lv_iload_n hx hb d_M_result_229 rfl (lv_at hl 2 rfl) ?_
    obtain ⟨c49, hF⟩ := qs_in_some hF
    refine va_iald hx hb hK hP 13 6 rfl rfl c49 d_M_result_230 ?_
    obtain ⟨r50, hX, hF⟩ := qs_pb_some hF
    refine qs_psi (va_runSN (own := "QuakeServer$Machine") (As := [.int (g 13 a2.toNatClampNeg)]) (rest := [.ref (h 1)]) ⟨hx, hb, hml, hown, hg⟩ (c_Q_wholeOf l H.size (g 13 a2.toNatClampNeg) r50 hX) ⟨va_cnB (own := "QuakeServer$Machine") (index := 79) (host := "QuakeServer") 1 hg (qs_gc t_458) rfl rfl rfl (nM_5 hNs) (hg _ t_1) (by decide +kernel) ⟨Nat.le_of_ble_eq_true rfl, Nat.le_of_ble_eq_true rfl⟩, hg _ t_457, trivial⟩ ⟨qs_blind0, fun U hU hW => ⟨rfl, by rw [hU], hNs.warm hW⟩⟩ rfl rfl hl.1 rfl (lv_room (Nat.le_of_ble_eq_true rfl)) d_M_result_231 ⟨Nat.le_of_ble_eq_true rfl, Nat.le_of_ble_eq_true rfl⟩) hP hD hS hA (fun H locs hP hS => ?_)
    obtain ⟨r51, u52, hX, hF⟩ := qs_bn_some hF
    refine qs_ci (Wd := qs_W h c) (isC := [0, 1, 2, 3, 4, 5, 6, 7, 8, 9, 10, 11, 12, 13, 14, 15, 16]) (va_runV (own := "QuakeServer$Machine") (C := "QuakeServer$Entities") (As := [.int (r50)]) (rest := []) ⟨hx, hb, hml, hown, hg⟩ (c_E_firstBehind l dC dI h c H.size g (r50) r51 u52 hX) (cwV 1 hg (qs_gV t_480 t_481 t_482 t_2 t_483) rfl rfl rfl (by decide +kernel) ⟨Nat.le_of_ble_eq_true rfl, Nat.le_of_ble_eq_true rfl⟩) ⟨qs_blind, va_recv hK hP (ci := 0) (q0 := 1) rfl rfl, fun U hU hW => ⟨rfl, by rw [hU], by rw [hU]; exact hP, va_K.moved hW.alike hK, hD.weaken (fun _ _ _ _ => trivial), hNs.warm hW⟩⟩ rfl rfl hl.1 rfl (lv_room (Nat.le_of_ble_eq_true rfl)) d_M_result_234 ⟨Nat.le_of_ble_eq_true rfl, Nat.le_of_ble_eq_true rfl⟩) rfl hP hD hS hA (fun H locs hP hD hS => ?_)
    refine lv_bipush (v := 8) hx hb d_M_result_237 (by decide) ?_
    refine lv_imul hx hb d_M_result_239 ?_
    obtain ⟨h8, h9⟩ := qs_ret hF
    exact W.iret (v := r51 * 8) hx hb hr (fun t ht hW => ⟨⟨(r51 * 8), u52, rfl, ⟨h8, h9⟩, by rw [ht]; exact hP, va_K.moved hW.alike hK, hD⟩, hS.F ht⟩) hS.2.2 d_M_result_240
  have hF := qs_neg c48 hF
  refine lv_tableOut (tgt := 241) hx hb d_M_result_1 (by have := lv_neT (a := 0) c1 (by decide); have := lv_neT (a := 1) c2 (by decide); have := lv_neT (a := 2) c6 (by decide); have := lv_neT (a := 3) c10 (by decide); have := lv_neT (a := 4) c15 (by decide); have := lv_neT (a := 5) c19 (by decide); have := lv_neT (a := 6) c23 (by decide); have := lv_neT (a := 7) c25 (by decide); have := lv_neT (a := 8) c30 (by decide); have := lv_neT (a := 9) c33 (by decide); have := lv_neT (a := 10) c36 (by decide); have := lv_neT (a := 11) c39 (by decide); have := lv_neT (a := 12) c42 (by decide); have := lv_neT (a := 13) c45 (by decide); have := lv_neT (a := 14) c48 (by decide); omega) (by decide) ?_
  refine lv_aload_n hx hb d_M_result_241 rfl (lv_at hl 0 rfl) ?_
  obtain ⟨r53, u54, hX, hF⟩ := qs_bn_some hF
  refine qs_ci (Wd := qs_W h c) (isC := [0, 1, 2, 3, 4, 5, 6, 7, 8, 9, 10, 11, 12, 13, 14, 15, 16]) (va_runV (own := "QuakeServer$Machine") (C := "QuakeServer$Machine") (As := []) (rest := []) ⟨hx, hb, hml, hown, hg⟩ (c_M_draw l dC dI h c H.size g  r53 u54 hX) (cwV 0 hg (qs_gV t_484 t_486 tp_7 t_5 t_487) rfl rfl rfl (by decide +kernel) ⟨Nat.le_of_ble_eq_true rfl, Nat.le_of_ble_eq_true rfl⟩) ⟨qs_blind, va_recv hK hP (ci := 3) (q0 := 4) rfl rfl, fun U hU hW => ⟨rfl, by rw [hU], by rw [hU]; exact hP, va_K.moved hW.alike hK, hD.weaken (fun _ _ _ _ => trivial), hNs.warm hW⟩⟩ rfl rfl hl.1 rfl (lv_room (Nat.le_of_ble_eq_true rfl)) d_M_result_242 ⟨Nat.le_of_ble_eq_true rfl, Nat.le_of_ble_eq_true rfl⟩) rfl hP hD hS hA (fun H locs hP hD hS => ?_)
  obtain ⟨h8, h9⟩ := qs_ret hF
  exact W.iret (v := r53) hx hb hr (fun t ht hW => ⟨⟨r53, u54, rfl, ⟨h8, h9⟩, by rw [ht]; exact hP, va_K.moved hW.alike hK, hD⟩, hS.F ht⟩) hS.2.2 d_M_result_245
end
section
theorem d_M_step_0 : decode b_M_step 0 = .ok (.aload_n 0, 1) := by decide +kernel
theorem d_M_step_1 : decode b_M_step 1 = .ok (.getfield 29, 3) := by decide +kernel
theorem d_M_step_4 : decode b_M_step 4 = .ok (.aload_n 0, 1) := by decide +kernel
theorem d_M_step_5 : decode b_M_step 5 = .ok (.getfield 15, 3) := by decide +kernel
theorem d_M_step_8 : decode b_M_step 8 = .ok (.aload_n 0, 1) := by decide +kernel
theorem d_M_step_9 : decode b_M_step 9 = .ok (.getfield 51, 3) := by decide +kernel
theorem d_M_step_12 : decode b_M_step 12 = .ok (.iaload, 1) := by decide +kernel
theorem d_M_step_13 : decode b_M_step 13 = .ok (.aload_n 0, 1) := by decide +kernel
theorem d_M_step_14 : decode b_M_step 14 = .ok (.getfield 18, 3) := by decide +kernel
theorem d_M_step_17 : decode b_M_step 17 = .ok (.aload_n 0, 1) := by decide +kernel
theorem d_M_step_18 : decode b_M_step 18 = .ok (.getfield 51, 3) := by decide +kernel
theorem d_M_step_21 : decode b_M_step 21 = .ok (.iaload, 1) := by decide +kernel
theorem d_M_step_22 : decode b_M_step 22 = .ok (.invokevirtual 72, 3) := by decide +kernel
theorem d_M_step_25 : decode b_M_step 25 = .ok (.istore_n 1, 1) := by decide +kernel
theorem d_M_step_26 : decode b_M_step 26 = .ok (.aload_n 0, 1) := by decide +kernel
theorem d_M_step_27 : decode b_M_step 27 = .ok (.getfield 29, 3) := by decide +kernel
theorem d_M_step_30 : decode b_M_step 30 = .ok (.getfield 76, 3) := by decide +kernel
theorem d_M_step_33 : decode b_M_step 33 = .ok (.iload_n 1, 1) := by decide +kernel
theorem d_M_step_34 : decode b_M_step 34 = .ok (.iaload, 1) := by decide +kernel
theorem d_M_step_35 : decode b_M_step 35 = .ok (.istore_n 2, 1) := by decide +kernel
theorem d_M_step_36 : decode b_M_step 36 = .ok (.aload_n 0, 1) := by decide +kernel
theorem d_M_step_37 : decode b_M_step 37 = .ok (.getfield 29, 3) := by decide +kernel
theorem d_M_step_40 : decode b_M_step 40 = .ok (.getfield 76, 3) := by decide +kernel
theorem d_M_step_43 : decode b_M_step 43 = .ok (.iload_n 1, 1) := by decide +kernel
theorem d_M_step_44 : decode b_M_step 44 = .ok (.iconst 1, 1) := by decide +kernel
theorem d_M_step_45 : decode b_M_step 45 = .ok (.iadd, 1) := by decide +kernel
theorem d_M_step_46 : decode b_M_step 46 = .ok (.iaload, 1) := by decide +kernel
theorem d_M_step_47 : decode b_M_step 47 = .ok (.istore_n 3, 1) := by decide +kernel
theorem d_M_step_48 : decode b_M_step 48 = .ok (.aload_n 0, 1) := by decide +kernel
theorem d_M_step_49 : decode b_M_step 49 = .ok (.getfield 29, 3) := by decide +kernel
theorem d_M_step_52 : decode b_M_step 52 = .ok (.getfield 76, 3) := by decide +kernel
theorem d_M_step_55 : decode b_M_step 55 = .ok (.iload_n 1, 1) := by decide +kernel
theorem d_M_step_56 : decode b_M_step 56 = .ok (.iconst 2, 1) := by decide +kernel
theorem d_M_step_57 : decode b_M_step 57 = .ok (.iadd, 1) := by decide +kernel
theorem d_M_step_58 : decode b_M_step 58 = .ok (.iaload, 1) := by decide +kernel
theorem d_M_step_59 : decode b_M_step 59 = .ok (.istore 4, 2) := by decide +kernel
theorem d_M_step_61 : decode b_M_step 61 = .ok (.aload_n 0, 1) := by decide +kernel
theorem d_M_step_62 : decode b_M_step 62 = .ok (.getfield 29, 3) := by decide +kernel
theorem d_M_step_65 : decode b_M_step 65 = .ok (.getfield 76, 3) := by decide +kernel
theorem d_M_step_68 : decode b_M_step 68 = .ok (.iload_n 1, 1) := by decide +kernel
theorem d_M_step_69 : decode b_M_step 69 = .ok (.iconst 3, 1) := by decide +kernel
theorem d_M_step_70 : decode b_M_step 70 = .ok (.iadd, 1) := by decide +kernel
theorem d_M_step_71 : decode b_M_step 71 = .ok (.iaload, 1) := by decide +kernel
theorem d_M_step_72 : decode b_M_step 72 = .ok (.istore 5, 2) := by decide +kernel
theorem d_M_step_74 : decode b_M_step 74 = .ok (.aload_n 0, 1) := by decide +kernel
theorem d_M_step_75 : decode b_M_step 75 = .ok (.getfield 18, 3) := by decide +kernel
theorem d_M_step_78 : decode b_M_step 78 = .ok (.aload_n 0, 1) := by decide +kernel
theorem d_M_step_79 : decode b_M_step 79 = .ok (.getfield 51, 3) := by decide +kernel
theorem d_M_step_82 : decode b_M_step 82 = .ok (.dup2, 1) := by decide +kernel
theorem d_M_step_83 : decode b_M_step 83 = .ok (.iaload, 1) := by decide +kernel
theorem d_M_step_84 : decode b_M_step 84 = .ok (.iconst 1, 1) := by decide +kernel
theorem d_M_step_85 : decode b_M_step 85 = .ok (.iadd, 1) := by decide +kernel
theorem d_M_step_86 : decode b_M_step 86 = .ok (.iastore, 1) := by decide +kernel
theorem d_M_step_87 : decode b_M_step 87 = .ok (.iload_n 2, 1) := by decide +kernel
theorem d_M_step_88 : decode b_M_step 88 = .ok (.tableswitch 158 8 16 #[52, 80, 103, 117, 158, 125, 158, 158, 144], 52) := by decide +kernel
theorem d_M_step_140 : decode b_M_step 140 = .ok (.aload_n 0, 1) := by decide +kernel
theorem d_M_step_141 : decode b_M_step 141 = .ok (.getfield 25, 3) := by decide +kernel
theorem d_M_step_144 : decode b_M_step 144 = .ok (.aload_n 0, 1) := by decide +kernel
theorem d_M_step_145 : decode b_M_step 145 = .ok (.getfield 9, 3) := by decide +kernel
theorem d_M_step_148 : decode b_M_step 148 = .ok (.iload_n 3, 1) := by decide +kernel
theorem d_M_step_149 : decode b_M_step 149 = .ok (.iaload, 1) := by decide +kernel
theorem d_M_step_150 : decode b_M_step 150 = .ok (.invokestatic 79, 3) := by decide +kernel
theorem d_M_step_153 : decode b_M_step 153 = .ok (.iload 4, 2) := by decide +kernel
theorem d_M_step_155 : decode b_M_step 155 = .ok (.aload_n 0, 1) := by decide +kernel
theorem d_M_step_156 : decode b_M_step 156 = .ok (.getfield 9, 3) := by decide +kernel
theorem d_M_step_159 : decode b_M_step 159 = .ok (.iload 5, 2) := by decide +kernel
theorem d_M_step_161 : decode b_M_step 161 = .ok (.iaload, 1) := by decide +kernel
theorem d_M_step_162 : decode b_M_step 162 = .ok (.invokevirtual 82, 3) := by decide +kernel
theorem d_M_step_165 : decode b_M_step 165 = .ok (.goto 96, 3) := by decide +kernel
theorem d_M_step_168 : decode b_M_step 168 = .ok (.aload_n 0, 1) := by decide +kernel
theorem d_M_step_169 : decode b_M_step 169 = .ok (.getfield 9, 3) := by decide +kernel
theorem d_M_step_172 : decode b_M_step 172 = .ok (.iload_n 3, 1) := by decide +kernel
theorem d_M_step_173 : decode b_M_step 173 = .ok (.iaload, 1) := by decide +kernel
theorem d_M_step_174 : decode b_M_step 174 = .ok (.ifCond .ne 87, 3) := by decide +kernel
theorem d_M_step_177 : decode b_M_step 177 = .ok (.aload_n 0, 1) := by decide +kernel
theorem d_M_step_178 : decode b_M_step 178 = .ok (.getfield 18, 3) := by decide +kernel
theorem d_M_step_181 : decode b_M_step 181 = .ok (.aload_n 0, 1) := by decide +kernel
theorem d_M_step_182 : decode b_M_step 182 = .ok (.getfield 51, 3) := by decide +kernel
theorem d_M_step_185 : decode b_M_step 185 = .ok (.iload 4, 2) := by decide +kernel
theorem d_M_step_187 : decode b_M_step 187 = .ok (.iastore, 1) := by decide +kernel
theorem d_M_step_188 : decode b_M_step 188 = .ok (.goto 73, 3) := by decide +kernel
theorem d_M_step_191 : decode b_M_step 191 = .ok (.aload_n 0, 1) := by decide +kernel
theorem d_M_step_192 : decode b_M_step 192 = .ok (.getfield 18, 3) := by decide +kernel
theorem d_M_step_195 : decode b_M_step 195 = .ok (.aload_n 0, 1) := by decide +kernel
theorem d_M_step_196 : decode b_M_step 196 = .ok (.getfield 51, 3) := by decide +kernel
theorem d_M_step_199 : decode b_M_step 199 = .ok (.iload 4, 2) := by decide +kernel
theorem d_M_step_201 : decode b_M_step 201 = .ok (.iastore, 1) := by decide +kernel
theorem d_M_step_202 : decode b_M_step 202 = .ok (.goto 59, 3) := by decide +kernel
theorem d_M_step_205 : decode b_M_step 205 = .ok (.aload_n 0, 1) := by decide +kernel
theorem d_M_step_206 : decode b_M_step 206 = .ok (.iload_n 3, 1) := by decide +kernel
theorem d_M_step_207 : decode b_M_step 207 = .ok (.invokevirtual 88, 3) := by decide +kernel
theorem d_M_step_210 : decode b_M_step 210 = .ok (.goto 51, 3) := by decide +kernel
theorem d_M_step_213 : decode b_M_step 213 = .ok (.aload_n 0, 1) := by decide +kernel
theorem d_M_step_214 : decode b_M_step 214 = .ok (.getfield 25, 3) := by decide +kernel
theorem d_M_step_217 : decode b_M_step 217 = .ok (.aload_n 0, 1) := by decide +kernel
theorem d_M_step_218 : decode b_M_step 218 = .ok (.getfield 9, 3) := by decide +kernel
theorem d_M_step_221 : decode b_M_step 221 = .ok (.iload_n 3, 1) := by decide +kernel
theorem d_M_step_222 : decode b_M_step 222 = .ok (.iaload, 1) := by decide +kernel
theorem d_M_step_223 : decode b_M_step 223 = .ok (.invokestatic 79, 3) := by decide +kernel
theorem d_M_step_226 : decode b_M_step 226 = .ok (.invokevirtual 92, 3) := by decide +kernel
theorem d_M_step_229 : decode b_M_step 229 = .ok (.goto 32, 3) := by decide +kernel
theorem d_M_step_232 : decode b_M_step 232 = .ok (.aload_n 0, 1) := by decide +kernel
theorem d_M_step_233 : decode b_M_step 233 = .ok (.getfield 18, 3) := by decide +kernel
theorem d_M_step_236 : decode b_M_step 236 = .ok (.aload_n 0, 1) := by decide +kernel
theorem d_M_step_237 : decode b_M_step 237 = .ok (.getfield 51, 3) := by decide +kernel
theorem d_M_step_240 : decode b_M_step 240 = .ok (.bipush 14, 2) := by decide +kernel
theorem d_M_step_242 : decode b_M_step 242 = .ok (.iastore, 1) := by decide +kernel
theorem d_M_step_243 : decode b_M_step 243 = .ok (.goto 18, 3) := by decide +kernel
theorem d_M_step_246 : decode b_M_step 246 = .ok (.aload_n 0, 1) := by decide +kernel
theorem d_M_step_247 : decode b_M_step 247 = .ok (.getfield 9, 3) := by decide +kernel
theorem d_M_step_250 : decode b_M_step 250 = .ok (.iload 5, 2) := by decide +kernel
theorem d_M_step_252 : decode b_M_step 252 = .ok (.aload_n 0, 1) := by decide +kernel
theorem d_M_step_253 : decode b_M_step 253 = .ok (.iload_n 2, 1) := by decide +kernel
theorem d_M_step_254 : decode b_M_step 254 = .ok (.iload_n 3, 1) := by decide +kernel
theorem d_M_step_255 : decode b_M_step 255 = .ok (.iload 4, 2) := by decide +kernel
theorem d_M_step_257 : decode b_M_step 257 = .ok (.invokevirtual 95, 3) := by decide +kernel
theorem d_M_step_260 : decode b_M_step 260 = .ok (.iastore, 1) := by decide +kernel
theorem d_M_step_261 : decode b_M_step 261 = .ok (.return_, 1) := by decide +kernel
def f_M_step (g : Sg)  : Option (Unit × Sg) := (qs_in (g 21 0) 6 (qs_in (g 21 0) 6 (qs_bn (f_P_firstPart g (g 14 (g 21 0).toNatClampNeg) (g 15 (g 21 0).toNatClampNeg)) fun r3 u4 => (qs_in (r3) 336 (qs_in (r3 + 1) 336 (qs_in (r3 + 2) 336 (qs_in (r3 + 3) 336 (qs_in (u4 21 0) 6 (qs_in (u4 21 0) 6 (qs_st (qs_a u4 15 (u4 21 0).toNatClampNeg ((u4 15 (u4 21 0).toNatClampNeg) + 1)) fun u11 => (if u4 11 r3.toNatClampNeg = 8 then (qs_in (u4 11 (r3 + 1).toNatClampNeg) 24 (qs_pb (f_Q_wholeOf (u11 13 (u4 11 (r3 + 1).toNatClampNeg).toNatClampNeg)) fun r14 => (qs_in (u4 11 (r3 + 3).toNatClampNeg) 24 (qs_bn (f_E_put u11 (r14) (u4 11 (r3 + 2).toNatClampNeg) (u11 13 (u4 11 (r3 + 3).toNatClampNeg).toNatClampNeg)) fun _ u17 => (some ((), u17)))))) else (if u4 11 r3.toNatClampNeg = 9 then (qs_in (u4 11 (r3 + 1).toNatClampNeg) 24 (if (u11 13 (u4 11 (r3 + 1).toNatClampNeg).toNatClampNeg) = 0 then (qs_in (u11 21 0) 6 (qs_st (qs_a u11 15 (u11 21 0).toNatClampNeg (u4 11 (r3 + 2).toNatClampNeg)) fun u22 => (some ((), u22)))) else (some ((), u11)))) else (if u4 11 r3.toNatClampNeg = 10 then (qs_in (u11 21 0) 6 (qs_st (qs_a u11 15 (u11 21 0).toNatClampNeg (u4 11 (r3 + 2).toNatClampNeg)) fun u25 => (some ((), u25)))) else (if u4 11 r3.toNatClampNeg = 11 then (qs_bn (f_M_enter u11 (u4 11 (r3 + 1).toNatClampNeg)) fun _ u28 => (some ((), u28))) else (if u4 11 r3.toNatClampNeg = 12 then (qs_bn (f_M_result u11 (u4 11 r3.toNatClampNeg) (u4 11 (r3 + 1).toNatClampNeg) (u4 11 (r3 + 2).toNatClampNeg)) fun r30 u31 => (qs_in (u4 11 (r3 + 3).toNatClampNeg) 24 (qs_st (qs_a u31 13 (u4 11 (r3 + 3).toNatClampNeg).toNatClampNeg (r30)) fun u33 => (some ((), u33))))) else (if u4 11 r3.toNatClampNeg = 13 then (qs_in (u4 11 (r3 + 1).toNatClampNeg) 24 (qs_pb (f_Q_wholeOf (u11 13 (u4 11 (r3 + 1).toNatClampNeg).toNatClampNeg)) fun r36 => (qs_bn (f_E_erase u11 (r36)) fun _ u38 => (some ((), u38))))) else (if u4 11 r3.toNatClampNeg = 14 then (qs_bn (f_M_result u11 (u4 11 r3.toNatClampNeg) (u4 11 (r3 + 1).toNatClampNeg) (u4 11 (r3 + 2).toNatClampNeg)) fun r40 u41 => (qs_in (u4 11 (r3 + 3).toNatClampNeg) 24 (qs_st (qs_a u41 13 (u4 11 (r3 + 3).toNatClampNeg).toNatClampNeg (r40)) fun u43 => (some ((), u43))))) else (if u4 11 r3.toNatClampNeg = 15 then (qs_bn (f_M_result u11 (u4 11 r3.toNatClampNeg) (u4 11 (r3 + 1).toNatClampNeg) (u4 11 (r3 + 2).toNatClampNeg)) fun r45 u46 => (qs_in (u4 11 (r3 + 3).toNatClampNeg) 24 (qs_st (qs_a u46 13 (u4 11 (r3 + 3).toNatClampNeg).toNatClampNeg (r45)) fun u48 => (some ((), u48))))) else (if u4 11 r3.toNatClampNeg = 16 then (qs_in (u11 21 0) 6 (qs_st (qs_a u11 15 (u11 21 0).toNatClampNeg (14)) fun u51 => (some ((), u51)))) else (qs_bn (f_M_result u11 (u4 11 r3.toNatClampNeg) (u4 11 (r3 + 1).toNatClampNeg) (u4 11 (r3 + 2).toNatClampNeg)) fun r52 u53 => (qs_in (u4 11 (r3 + 3).toNatClampNeg) 24 (qs_st (qs_a u53 13 (u4 11 (r3 + 3).toNatClampNeg).toNatClampNeg (r52)) fun u55 => (some ((), u55))))))))))))))))))))))))
set_option maxHeartbeats 4000000 in
set_option maxRecDepth 100000 in
theorem c_M_step (l : Launch) (dC : Nat → ClassId) (dI : Nat → Nat → Nat) (h : Nat → Nat) (c : Nat → ClassId) (sz : Nat) (g : Sg)  (u0 : Sg) (hF : f_M_step g  = some ((), u0)) : Met l y_M_step (qs_ws y_M_step b_M_step 6 none) ({ frames := 2, cells := 0, slots := 0, locals := 48 } : Room) (va_Pc ([.ref (h 4)] : List Value) (fun U => U.heap.size = sz ∧ va_P (dC, dI) vwCl (qs_W h c g) U.heap ∧ va_K (dC, dI) vwCl (qs_T c) U ∧ va_D (fun _ => True) (qs_W h c g) ∧ qs_N U)) (va_Qv (fun (u : Sg) => u = u0) (qs_at dC dI h c (va_A (qs_W h c g) sz)) (va_A (qs_W h c g) sz)) 0 0 (va_A (qs_W h c g) sz) := by
  refine Met.ofW (cc := b_M_step) (maxL := 6) (ret := none) (by decide +kernel) rfl ?_
  intro p e s m args below meth cd s₁ B hml hv
  obtain ⟨rfl, hsz, hP, hK, hD0, hNs⟩ := hv
  have hx := B.exec
  have hb := B.bytes
  have hr := B.returns
  have hts := atoms_spec (ws := (qs_ws y_M_step b_M_step 6 none)) B.pre
  have hg : ∀ w ∈ qs_gt, w.before _ s = true := fun w h => hts w (List.mem_cons_of_mem _ h)
  have hown : s.vm.findClass R_M = some m.cls := findClass_of_methodNamed B.named
  have hlocks := B.notSynchronized
  subst hsz
  have hD := hD0.self (sz := s.heap.size)
  generalize hAe : va_A (qs_W h c g) s.heap.size = A at hD ⊢
  have hA : ∀ q : Nat, s.heap.size ≤ q → A q := fun q h => by rw [← hAe]; exact Or.inr h
  have hS : va_S A s.heap s.heap [] := va_S.rf
  have hl := lv_entry ([.ref (h 4)] : List Value) (n := 6) (Nat.le_of_ble_eq_true rfl)
  rw [lg_entry_eq]
  generalize (lg_sl ([.ref (h 4)] : List Value) ++ List.replicate (6 - (lg_sl ([.ref (h 4)] : List Value)).length) Slot.unset).toArray = ls at hl ⊢
  have hl : lv_has ls 6 [(0, .ref (h 4))] := hl
  unfold f_M_step at hF
  obtain ⟨H, hHe⟩ : ∃ H, H = s.heap := ⟨_, rfl⟩
  obtain ⟨locs, hLe⟩ : ∃ L : List Loc, L = [] := ⟨_, rfl⟩
  rw [← hHe] at hP ⊢
  rw [← hLe]
  have hS : va_S A s.heap H locs := by rw [hHe, hLe]; exact hS
  refine lv_aload_n hx hb d_M_step_0 rfl (lv_at hl 0 rfl) ?_
  refine va_get (D := (dC, dI)) (ci := 3) (v := .ref (h 3)) (C := R_M) (T := T_M) (N := 11) hx hb hg in_M hown hK hP 4 rfl rfl 1 (by decide) (hg _ t_78) (fun _ h9 => h9) rfl d_M_step_1 ?_
  refine lv_aload_n hx hb d_M_step_4 rfl (lv_at hl 0 rfl) ?_
  refine va_get (D := (dC, dI)) (ci := 3) (v := .ref (h 14)) (C := R_M) (T := T_M) (N := 11) hx hb hg in_M hown hK hP 4 rfl rfl 3 (by decide) (hg _ t_81) (fun _ h9 => h9) rfl d_M_step_5 ?_
  refine lv_aload_n hx hb d_M_step_8 rfl (lv_at hl 0 rfl) ?_
  refine va_get (D := (dC, dI)) (ci := 3) (v := .int (g 21 0)) (C := R_M) (T := T_M) (N := 11) hx hb hg in_M hown hK hP 4 rfl rfl 5 (by decide) (hg _ t_83) (fun _ h9 => h9) rfl d_M_step_9 ?_
  obtain ⟨c1, hF⟩ := qs_in_some hF
  refine va_iald hx hb hK hP 14 7 rfl rfl c1 d_M_step_12 ?_
  refine lv_aload_n hx hb d_M_step_13 rfl (lv_at hl 0 rfl) ?_
  refine va_get (D := (dC, dI)) (ci := 3) (v := .ref (h 15)) (C := R_M) (T := T_M) (N := 11) hx hb hg in_M hown hK hP 4 rfl rfl 4 (by decide) (hg _ t_82) (fun _ h9 => h9) rfl d_M_step_14 ?_
  refine lv_aload_n hx hb d_M_step_17 rfl (lv_at hl 0 rfl) ?_
  refine va_get (D := (dC, dI)) (ci := 3) (v := .int (g 21 0)) (C := R_M) (T := T_M) (N := 11) hx hb hg in_M hown hK hP 4 rfl rfl 5 (by decide) (hg _ t_83) (fun _ h9 => h9) rfl d_M_step_18 ?_
  obtain ⟨c2, hF⟩ := qs_in_some hF
  refine va_iald hx hb hK hP 15 8 rfl rfl c2 d_M_step_21 ?_
  obtain ⟨r3, u4, hX, hF⟩ := qs_bn_some hF
  refine qs_ci (Wd := qs_W h c) (isC := [0, 1, 2, 3, 4, 5, 6, 7, 8, 9, 10, 11, 12, 13, 14, 15, 16]) (va_runV (own := "QuakeServer$Machine") (C := "QuakeServer$Program") (As := [.int (g 14 (g 21 0).toNatClampNeg), .int (g 15 (g 21 0).toNatClampNeg)]) (rest := []) ⟨hx, hb, hml, hown, hg⟩ (c_P_firstPart l dC dI h c H.size g (g 14 (g 21 0).toNatClampNeg) (g 15 (g 21 0).toNatClampNeg) r3 u4 hX) (cwV 2 hg (qs_gV t_455 t_329 t_330 t_4 t_331) rfl rfl rfl (by decide +kernel) ⟨Nat.le_of_ble_eq_true rfl, Nat.le_of_ble_eq_true rfl⟩) ⟨qs_blind, va_recv hK hP (ci := 2) (q0 := 3) rfl rfl, fun U hU hW => ⟨rfl, by rw [hU], by rw [hU]; exact hP, va_K.moved hW.alike hK, hD.weaken (fun _ _ _ _ => trivial), hNs.warm hW⟩⟩ rfl rfl hl.1 rfl (lv_room (Nat.le_of_ble_eq_true rfl)) d_M_step_22 ⟨Nat.le_of_ble_eq_true rfl, Nat.le_of_ble_eq_true rfl⟩) rfl hP hD hS hA (fun H locs hP hD hS => ?_)
  refine lv_istore_n (lv' := [(1, .int (r3)), (0, .ref (h 4))]) hx hb d_M_step_25 rfl hl (by decide) rfl (fun ls hl => ?_)
  refine lv_aload_n hx hb d_M_step_26 rfl (lv_at hl 1 rfl) ?_
  refine va_get (D := (dC, dI)) (ci := 3) (v := .ref (h 3)) (C := R_M) (T := T_M) (N := 11) hx hb hg in_M hown hK hP 4 rfl rfl 1 (by decide) (hg _ t_78) (fun _ h9 => h9) rfl d_M_step_27 ?_
  refine va_getN (D := (dC, dI)) (ci := 2) (v := .ref (h 11)) (C := R_P) (T := T_P) (N := 2) hx hb hg in_P hown hK hP 3 rfl rfl 0 (by decide) (va_Nw.use rfl (nF_2 hNs)) (fun _ h9 => h9) rfl d_M_step_30 ?_
  refine lv_iload_n hx hb d_M_step_33 rfl (lv_at hl 0 rfl) ?_
  obtain ⟨c5, hF⟩ := qs_in_some hF
  refine va_iald hx hb hK hP 11 4 rfl rfl c5 d_M_step_34 ?_
  refine lv_istore_n (lv' := [(2, .int (u4 11 r3.toNatClampNeg)), (1, .int (r3)), (0, .ref (h 4))]) hx hb d_M_step_35 rfl hl (by decide) rfl (fun ls hl => ?_)
  refine lv_aload_n hx hb d_M_step_36 rfl (lv_at hl 2 rfl) ?_
  refine va_get (D := (dC, dI)) (ci := 3) (v := .ref (h 3)) (C := R_M) (T := T_M) (N := 11) hx hb hg in_M hown hK hP 4 rfl rfl 1 (by decide) (hg _ t_78) (fun _ h9 => h9) rfl d_M_step_37 ?_
  refine va_getN (D := (dC, dI)) (ci := 2) (v := .ref (h 11)) (C := R_P) (T := T_P) (N := 2) hx hb hg in_P hown hK hP 3 rfl rfl 0 (by decide) (va_Nw.use rfl (nF_2 hNs)) (fun _ h9 => h9) rfl d_M_step_40 ?_
  refine lv_iload_n hx hb d_M_step_43 rfl (lv_at hl 1 rfl) ?_
  refine lv_iconst (v := 1) hx hb d_M_step_44 (by decide) ?_
  refine lv_iadd hx hb d_M_step_45 ?_
  obtain ⟨c6, hF⟩ := qs_in_some hF
  refine va_iald hx hb hK hP 11 4 rfl rfl c6 d_M_step_46 ?_
  refine lv_istore_n (lv' := [(3, .int (u4 11 (r3 + 1).toNatClampNeg)), (2, .int (u4 11 r3.toNatClampNeg)), (1, .int (r3)), (0, .ref (h 4))]) hx hb d_M_step_47 rfl hl (by decide) rfl (fun ls hl => ?_)
  refine lv_aload_n hx hb d_M_step_48 rfl (lv_at hl 3 rfl) ?_
  refine va_get (D := (dC, dI)) (ci := 3) (v := .ref (h 3)) (C := R_M) (T := T_M) (N := 11) hx hb hg in_M hown hK hP 4 rfl rfl 1 (by decide) (hg _ t_78) (fun _ h9 => h9) rfl d_M_step_49 ?_
  refine va_getN (D := (dC, dI)) (ci := 2) (v := .ref (h 11)) (C := R_P) (T := T_P) (N := 2) hx hb hg in_P hown hK hP 3 rfl rfl 0 (by decide) (va_Nw.use rfl (nF_2 hNs)) (fun _ h9 => h9) rfl d_M_step_52 ?_
  refine lv_iload_n hx hb d_M_step_55 rfl (lv_at hl 2 rfl) ?_
  refine lv_iconst (v := 2) hx hb d_M_step_56 (by decide) ?_
  refine lv_iadd hx hb d_M_step_57 ?_
  obtain ⟨c7, hF⟩ := qs_in_some hF
  refine va_iald hx hb hK hP 11 4 rfl rfl c7 d_M_step_58 ?_
  refine lv_istore (lv' := [(4, .int (u4 11 (r3 + 2).toNatClampNeg)), (3, .int (u4 11 (r3 + 1).toNatClampNeg)), (2, .int (u4 11 r3.toNatClampNeg)), (1, .int (r3)), (0, .ref (h 4))]) hx hb d_M_step_59 hl (by decide) rfl (fun ls hl => ?_)
  refine lv_aload_n hx hb d_M_step_61 rfl (lv_at hl 4 rfl) ?_
  refine va_get (D := (dC, dI)) (ci := 3) (v := .ref (h 3)) (C := R_M) (T := T_M) (N := 11) hx hb hg in_M hown hK hP 4 rfl rfl 1 (by decide) (hg _ t_78) (fun _ h9 => h9) rfl d_M_step_62 ?_
  refine va_getN (D := (dC, dI)) (ci := 2) (v := .ref (h 11)) (C := R_P) (T := T_P) (N := 2) hx hb hg in_P hown hK hP 3 rfl rfl 0 (by decide) (va_Nw.use rfl (nF_2 hNs)) (fun _ h9 => h9) rfl d_M_step_65 ?_
  refine lv_iload_n hx hb d_M_step_68 rfl (lv_at hl 3 rfl) ?_
  refine lv_iconst (v := 3) hx hb d_M_step_69 (by decide) ?_
  refine lv_iadd hx hb d_M_step_70 ?_
  obtain ⟨c8, hF⟩ := qs_in_some hF
  refine va_iald hx hb hK hP 11 4 rfl rfl c8 d_M_step_71 ?_
  refine lv_istore (lv' := [(5, .int (u4 11 (r3 + 3).toNatClampNeg)), (4, .int (u4 11 (r3 + 2).toNatClampNeg)), (3, .int (u4 11 (r3 + 1).toNatClampNeg)), (2, .int (u4 11 r3.toNatClampNeg)), (1, .int (r3)), (0, .ref (h 4))]) hx hb d_M_step_72 hl (by decide) rfl (fun ls hl => ?_)
  refine lv_aload_n hx hb d_M_step_74 rfl (lv_at hl 5 rfl) ?_
  refine va_get (D := (dC, dI)) (ci := 3) (v := .ref (h 15)) (C := R_M) (T := T_M) (N := 11) hx hb hg in_M hown hK hP 4 rfl rfl 4 (by decide) (hg _ t_82) (fun _ h9 => h9) rfl d_M_step_75 ?_
  refine lv_aload_n hx hb d_M_step_78 rfl (lv_at hl 5 rfl) ?_
  refine va_get (D := (dC, dI)) (ci := 3) (v := .int (u4 21 0)) (C := R_M) (T := T_M) (N := 11) hx hb hg in_M hown hK hP 4 rfl rfl 5 (by decide) (hg _ t_83) (fun _ h9 => h9) rfl d_M_step_79 ?_
  refine lv_dup2_11 hx hb d_M_step_82 rfl rfl ?_
  obtain ⟨c9, hF⟩ := qs_in_some hF
  refine va_iald hx hb hK hP 15 8 rfl rfl c9 d_M_step_83 ?_
  refine lv_iconst (v := 1) hx hb d_M_step_84 (by decide) ?_
  refine lv_iadd hx hb d_M_step_85 ?_
  obtain ⟨c10, hF⟩ := qs_in_some hF
  refine va_iast hx hb hK hP hD hS 15 8 rfl rfl c10 d_M_step_86 (fun H locs hP hD hS => ?_)
  obtain ⟨u11, hu11, hF⟩ := qs_st_some hF
  have hP : va_P (dC, dI) vwCl (qs_W h c u11) H := by rw [hu11]; exact hP
  have hD : va_D A (qs_W h c u11) := by rw [hu11]; exact hD
  clear hu11
  refine lv_iload_n hx hb d_M_step_87 rfl (lv_at hl 3 rfl) ?_
  by_cases c12 : u4 11 r3.toNatClampNeg = 8
  · have hF := qs_pos c12 hF
    refine lv_tableIn (tgt := 140) hx hb d_M_step_88 (by rw [c12]; decide) (by rw [c12]; decide) (by rw [c12]; rfl) (by decide) ?_
    refine lv_aload_n hx hb d_M_step_140 rfl (lv_at hl 5 rfl) ?_
    refine va_get (D := (dC, dI)) (ci := 3) (v := .ref (h 1)) (C := R_M) (T := T_M) (N := 11) hx hb hg in_M hown hK hP 4 rfl rfl 0 (by decide) (hg _ t_77) (fun _ h9 => h9) rfl d_M_step_141 ?_
    refine lv_aload_n hx hb d_M_step_144 rfl (lv_at hl 5 rfl) ?_
    refine va_get (D := (dC, dI)) (ci := 3) (v := .ref (h 13)) (C := R_M) (T := T_M) (N := 11) hx hb hg in_M hown hK hP 4 rfl rfl 2 (by decide) (hg _ t_79) (fun _ h9 => h9) rfl d_M_step_145 ?_
    refine lv_iload_n hx hb d_M_step_148 rfl (lv_at hl 2 rfl) ?_
    obtain ⟨c13, hF⟩ := qs_in_some hF
    refine va_iald hx hb hK hP 13 6 rfl rfl c13 d_M_step_149 ?_
    obtain ⟨r14, hX, hF⟩ := qs_pb_some hF
    refine qs_psi (va_runSN (own := "QuakeServer$Machine") (As := [.int (u11 13 (u4 11 (r3 + 1).toNatClampNeg).toNatClampNeg)]) (rest := [.ref (h 1)]) ⟨hx, hb, hml, hown, hg⟩ (c_Q_wholeOf l H.size (u11 13 (u4 11 (r3 + 1).toNatClampNeg).toNatClampNeg) r14 hX) ⟨va_cnB (own := "QuakeServer$Machine") (index := 79) (host := "QuakeServer") 1 hg (qs_gc t_458) rfl rfl rfl (nM_5 hNs) (hg _ t_1) (by decide +kernel) ⟨Nat.le_of_ble_eq_true rfl, Nat.le_of_ble_eq_true rfl⟩, hg _ t_457, trivial⟩ ⟨qs_blind0, fun U hU hW => ⟨rfl, by rw [hU], hNs.warm hW⟩⟩ rfl rfl hl.1 rfl (lv_room (Nat.le_of_ble_eq_true rfl)) d_M_step_150 ⟨Nat.le_of_ble_eq_true rfl, Nat.le_of_ble_eq_true rfl⟩) hP hD hS hA (fun H locs hP hS => ?_)
    refine lv_iload hx hb d_M_step_153 (lv_at hl 1 rfl) ?_
    refine lv_aload_n hx hb d_M_step_155 rfl (lv_at hl 5 rfl) ?_
    refine va_get (D := (dC, dI)) (ci := 3) (v := .ref (h 13)) (C := R_M) (T := T_M) (N := 11) hx hb hg in_M hown hK hP 4 rfl rfl 2 (by decide) (hg _ t_79) (fun _ h9 => h9) rfl d_M_step_156 ?_
    refine lv_iload hx hb d_M_step_159 (lv_at hl 0 rfl) ?_
    obtain ⟨c15, hF⟩ := qs_in_some hF
    refine va_iald hx hb hK hP 13 6 rfl rfl c15 d_M_step_161 ?_
    obtain ⟨r16, u17, hX, hF⟩ := qs_bn_some hF
    refine qs_cv (Wd := qs_W h c) (isC := [0, 1, 2, 3, 4, 5, 6, 7, 8, 9, 10, 11, 12, 13, 14, 15, 16]) (va_runV (own := "QuakeServer$Machine") (C := "QuakeServer$Entities") (As := [.int (r14), .int (u4 11 (r3 + 2).toNatClampNeg), .int (u11 13 (u4 11 (r3 + 3).toNatClampNeg).toNatClampNeg)]) (rest := []) ⟨hx, hb, hml, hown, hg⟩ (c_E_put l dC dI h c H.size u11 (r14) (u4 11 (r3 + 2).toNatClampNeg) (u11 13 (u4 11 (r3 + 3).toNatClampNeg).toNatClampNeg)  u17 hX) (cwV 3 hg (qs_gV t_459 t_355 t_356 t_2 t_357) rfl rfl rfl (by decide +kernel) ⟨Nat.le_of_ble_eq_true rfl, Nat.le_of_ble_eq_true rfl⟩) ⟨qs_blind, va_recv hK hP (ci := 0) (q0 := 1) rfl rfl, fun U hU hW => ⟨rfl, by rw [hU], by rw [hU]; exact hP, va_K.moved hW.alike hK, hD.weaken (fun _ _ _ _ => trivial), hNs.warm hW⟩⟩ rfl rfl hl.1 rfl (lv_room (Nat.le_of_ble_eq_true rfl)) d_M_step_162 ⟨Nat.le_of_ble_eq_true rfl, Nat.le_of_ble_eq_true rfl⟩) rfl hP hD hS hA (fun H locs hP hD hS => ?_)
    refine lv_goto (tgt := 261) hx hb d_M_step_165 (by decide) ?_
    obtain ⟨h8, h9⟩ := qs_ret hF
    exact W.vret hx hb hr (fun t ht hW => ⟨⟨u17, rfl, h9, by rw [ht]; exact hP, va_K.moved hW.alike hK, hD⟩, hS.F ht⟩) hS.2.2 d_M_step_261
  have hF := qs_neg c12 hF
  by_cases c18 : u4 11 r3.toNatClampNeg = 9
  · have hF := qs_pos c18 hF
    refine lv_tableIn (tgt := 168) hx hb d_M_step_88 (by rw [c18]; decide) (by rw [c18]; decide) (by rw [c18]; rfl) (by decide) ?_
    refine lv_aload_n hx hb d_M_step_168 rfl (lv_at hl 5 rfl) ?_
    refine va_get (D := (dC, dI)) (ci := 3) (v := .ref (h 13)) (C := R_M) (T := T_M) (N := 11) hx hb hg in_M hown hK hP 4 rfl rfl 2 (by decide) (hg _ t_79) (fun _ h9 => h9) rfl d_M_step_169 ?_
    refine lv_iload_n hx hb d_M_step_172 rfl (lv_at hl 2 rfl) ?_
    obtain ⟨c19, hF⟩ := qs_in_some hF
    refine va_iald hx hb hK hP 13 6 rfl rfl c19 d_M_step_173 ?_
    refine lv_if_ne (tgt := 261) hx hb d_M_step_174 (by decide) (fun c20 => ?_) (fun c20 => ?_)
    · have hF := qs_neg c20 hF
      obtain ⟨h8, h9⟩ := qs_ret hF
      exact W.vret hx hb hr (fun t ht hW => ⟨⟨u11, rfl, h9, by rw [ht]; exact hP, va_K.moved hW.alike hK, hD⟩, hS.F ht⟩) hS.2.2 d_M_step_261
    · have hF := qs_pos c20 hF
      refine lv_aload_n hx hb d_M_step_177 rfl (lv_at hl 5 rfl) ?_
      refine va_get (D := (dC, dI)) (ci := 3) (v := .ref (h 15)) (C := R_M) (T := T_M) (N := 11) hx hb hg in_M hown hK hP 4 rfl rfl 4 (by decide) (hg _ t_82) (fun _ h9 => h9) rfl d_M_step_178 ?_
      refine lv_aload_n hx hb d_M_step_181 rfl (lv_at hl 5 rfl) ?_
      refine va_get (D := (dC, dI)) (ci := 3) (v := .int (u11 21 0)) (C := R_M) (T := T_M) (N := 11) hx hb hg in_M hown hK hP 4 rfl rfl 5 (by decide) (hg _ t_83) (fun _ h9 => h9) rfl d_M_step_182 ?_
      refine lv_iload hx hb d_M_step_185 (lv_at hl 1 rfl) ?_
      obtain ⟨c21, hF⟩ := qs_in_some hF
      refine va_iast hx hb hK hP hD hS 15 8 rfl rfl c21 d_M_step_187 (fun H locs hP hD hS => ?_)
      obtain ⟨u22, hu22, hF⟩ := qs_st_some hF
      have hP : va_P (dC, dI) vwCl (qs_W h c u22) H := by rw [hu22]; exact hP
      have hD : va_D A (qs_W h c u22) := by rw [hu22]; exact hD
      clear hu22
      refine lv_goto (tgt := 261) hx hb d_M_step_188 (by decide) ?_
      obtain ⟨h8, h9⟩ := qs_ret hF
      exact W.vret hx hb hr (fun t ht hW => ⟨⟨u22, rfl, h9, by rw [ht]; exact hP, va_K.moved hW.alike hK, hD⟩, hS.F ht⟩) hS.2.2 d_M_step_261
  have hF := qs_neg c18 hF
  by_cases c23 : u4 11 r3.toNatClampNeg = 10
  · have hF := qs_pos c23 hF
    refine lv_tableIn (tgt := 191) hx hb d_M_step_88 (by rw [c23]; decide) (by rw [c23]; decide) (by rw [c23]; rfl) (by decide) ?_
    refine lv_aload_n hx hb d_M_step_191 rfl (lv_at hl 5 rfl) ?_
    refine va_get (D := (dC, dI)) (ci := 3) (v := .ref (h 15)) (C := R_M) (T := T_M) (N := 11) hx hb hg in_M hown hK hP 4 rfl rfl 4 (by decide) (hg _ t_82) (fun _ h9 => h9) rfl d_M_step_192 ?_
    refine lv_aload_n hx hb d_M_step_195 rfl (lv_at hl 5 rfl) ?_
    refine va_get (D := (dC, dI)) (ci := 3) (v := .int (u11 21 0)) (C := R_M) (T := T_M) (N := 11) hx hb hg in_M hown hK hP 4 rfl rfl 5 (by decide) (hg _ t_83) (fun _ h9 => h9) rfl d_M_step_196 ?_
    refine lv_iload hx hb d_M_step_199 (lv_at hl 1 rfl) ?_
    obtain ⟨c24, hF⟩ := qs_in_some hF
    refine va_iast hx hb hK hP hD hS 15 8 rfl rfl c24 d_M_step_201 (fun H locs hP hD hS => ?_)
    obtain ⟨u25, hu25, hF⟩ := qs_st_some hF
    have hP : va_P (dC, dI) vwCl (qs_W h c u25) H := by rw [hu25]; exact hP
    have hD : va_D A (qs_W h c u25) := by rw [hu25]; exact hD
    clear hu25
    refine lv_goto (tgt := 261) hx hb d_M_step_202 (by decide) ?_
    obtain ⟨h8, h9⟩ := qs_ret hF
    exact W.vret hx hb hr (fun t ht hW => ⟨⟨u25, rfl, h9, by rw [ht]; exact hP, va_K.moved hW.alike hK, hD⟩, hS.F ht⟩) hS.2.2 d_M_step_261
  have hF := qs_neg c23 hF
  by_cases c26 : u4 11 r3.toNatClampNeg = 11
  · have hF := qs_pos c26 hF
    refine lv_tableIn (tgt := 205) hx hb d_M_step_88 (by rw [c26]; decide) (by rw [c26]; decide) (by rw [c26]; rfl) (by decide) ?_
    refine lv_aload_n hx hb d_M_step_205 rfl (lv_at hl 5 rfl) ?_
    refine lv_iload_n hx hb d_M_step_206 rfl (lv_at hl 2 rfl) ?_
    obtain ⟨r27, u28, hX, hF⟩ := qs_bn_some hF
    refine qs_cv (Wd := qs_W h c) (isC := [0, 1, 2, 3, 4, 5, 6, 7, 8, 9, 10, 11, 12, 13, 14, 15, 16]) (va_runV (own := "QuakeServer$Machine") (C := "QuakeServer$Machine") (As := [.int (u4 11 (r3 + 1).toNatClampNeg)]) (rest := []) ⟨hx, hb, hml, hown, hg⟩ (c_M_enter l dC dI h c H.size u11 (u4 11 (r3 + 1).toNatClampNeg)  u28 hX) (cwV 1 hg (qs_gV t_460 t_462 tp_5 t_5 t_463) rfl rfl rfl (by decide +kernel) ⟨Nat.le_of_ble_eq_true rfl, Nat.le_of_ble_eq_true rfl⟩) ⟨qs_blind, va_recv hK hP (ci := 3) (q0 := 4) rfl rfl, fun U hU hW => ⟨rfl, by rw [hU], by rw [hU]; exact hP, va_K.moved hW.alike hK, hD.weaken (fun _ _ _ _ => trivial), hNs.warm hW⟩⟩ rfl rfl hl.1 rfl (lv_room (Nat.le_of_ble_eq_true rfl)) d_M_step_207 ⟨Nat.le_of_ble_eq_true rfl, Nat.le_of_ble_eq_true rfl⟩) rfl hP hD hS hA (fun H locs hP hD hS => ?_)
    refine lv_goto (tgt := 261) hx hb d_M_step_210 (by decide) ?_
    obtain ⟨h8, h9⟩ := qs_ret hF
    exact W.vret hx hb hr (fun t ht hW => ⟨⟨u28, rfl, h9, by rw [ht]; exact hP, va_K.moved hW.alike hK, hD⟩, hS.F ht⟩) hS.2.2 d_M_step_261
  have hF := qs_neg c26 hF
  by_cases c29 : u4 11 r3.toNatClampNeg = 12
  · have hF := qs_pos c29 hF
    refine lv_tableIn (tgt := 246) hx hb d_M_step_88 (by rw [c29]; decide) (by rw [c29]; decide) (by rw [c29]; rfl) (by decide) ?_
    refine lv_aload_n hx hb d_M_step_246 rfl (lv_at hl 5 rfl) ?_
    refine va_get (D := (dC, dI)) (ci := 3) (v := .ref (h 13)) (C := R_M) (T := T_M) (N := 11) hx hb hg in_M hown hK hP 4 rfl rfl 2 (by decide) (hg _ t_79) (fun _ h9 => h9) rfl d_M_step_247 ?_
    refine lv_iload hx hb d_M_step_250 (lv_at hl 0 rfl) ?_
    refine lv_aload_n hx hb d_M_step_252 rfl (lv_at hl 5 rfl) ?_
    refine lv_iload_n hx hb d_M_step_253 rfl (lv_at hl 3 rfl) ?_
    refine lv_iload_n hx hb d_M_step_254 rfl (lv_at hl 2 rfl) ?_
    refine lv_iload hx hb d_M_step_255 (lv_at hl 1 rfl) ?_
    obtain ⟨r30, u31, hX, hF⟩ := qs_bn_some hF
    refine qs_ci (Wd := qs_W h c) (isC := [0, 1, 2, 3, 4, 5, 6, 7, 8, 9, 10, 11, 12, 13, 14, 15, 16]) (va_runV (own := "QuakeServer$Machine") (C := "QuakeServer$Machine") (As := [.int (u4 11 r3.toNatClampNeg), .int (u4 11 (r3 + 1).toNatClampNeg), .int (u4 11 (r3 + 2).toNatClampNeg)]) (rest := [.int (u4 11 (r3 + 3).toNatClampNeg), .ref (h 13)]) ⟨hx, hb, hml, hown, hg⟩ (c_M_result l dC dI h c H.size u11 (u4 11 r3.toNatClampNeg) (u4 11 (r3 + 1).toNatClampNeg) (u4 11 (r3 + 2).toNatClampNeg) r30 u31 hX) (cwV 3 hg (qs_gV t_465 t_467 tp_6 t_5 t_468) rfl rfl rfl (by decide +kernel) ⟨Nat.le_of_ble_eq_true rfl, Nat.le_of_ble_eq_true rfl⟩) ⟨qs_blind, va_recv hK hP (ci := 3) (q0 := 4) rfl rfl, fun U hU hW => ⟨rfl, by rw [hU], by rw [hU]; exact hP, va_K.moved hW.alike hK, hD.weaken (fun _ _ _ _ => trivial), hNs.warm hW⟩⟩ rfl rfl hl.1 rfl (lv_room (Nat.le_of_ble_eq_true rfl)) d_M_step_257 ⟨Nat.le_of_ble_eq_true rfl, Nat.le_of_ble_eq_true rfl⟩) rfl hP hD hS hA (fun H locs hP hD hS => ?_)
    obtain ⟨c32, hF⟩ := qs_in_some hF
    refine va_iast hx hb hK hP hD hS 13 6 rfl rfl c32 d_M_step_260 (fun H locs hP hD hS => ?_)
    obtain ⟨u33, hu33, hF⟩ := qs_st_some hF
    have hP : va_P (dC, dI) vwCl (qs_W h c u33) H := by rw [hu33]; exact hP
    have hD : va_D A (qs_W h c u33) := by rw [hu33]; exact hD
    clear hu33
    obtain ⟨h8, h9⟩ := qs_ret hF
    exact W.vret hx hb hr (fun t ht hW => ⟨⟨u33, rfl, h9, by rw [ht]; exact hP, va_K.moved hW.alike hK, hD⟩, hS.F ht⟩) hS.2.2 d_M_step_261
  have hF := qs_neg c29 hF
  by_cases c34 : u4 11 r3.toNatClampNeg = 13
  · have hF := qs_pos c34 hF
    refine lv_tableIn (tgt := 213) hx hb d_M_step_88 (by rw [c34]; decide) (by rw [c34]; decide) (by rw [c34]; rfl) (by decide) ?_
    refine lv_aload_n hx hb d_M_step_213 rfl (lv_at hl 5 rfl) ?_
    refine va_get (D := (dC, dI)) (ci := 3) (v := .ref (h 1)) (C := R_M) (T := T_M) (N := 11) hx hb hg in_M hown hK hP 4 rfl rfl 0 (by decide) (hg _ t_77) (fun _ h9 => h9) rfl d_M_step_214 ?_
    refine lv_aload_n hx hb d_M_step_217 rfl (lv_at hl 5 rfl) ?_
    refine va_get (D := (dC, dI)) (ci := 3) (v := .ref (h 13)) (C := R_M) (T := T_M) (N := 11) hx hb hg in_M hown hK hP 4 rfl rfl 2 (by decide) (hg _ t_79) (fun _ h9 => h9) rfl d_M_step_218 ?_
    refine lv_iload_n hx hb d_M_step_221 rfl (lv_at hl 2 rfl) ?_
    obtain ⟨c35, hF⟩ := qs_in_some hF
    refine va_iald hx hb hK hP 13 6 rfl rfl c35 d_M_step_222 ?_
    obtain ⟨r36, hX, hF⟩ := qs_pb_some hF
    refine qs_psi (va_runSN (own := "QuakeServer$Machine") (As := [.int (u11 13 (u4 11 (r3 + 1).toNatClampNeg).toNatClampNeg)]) (rest := [.ref (h 1)]) ⟨hx, hb, hml, hown, hg⟩ (c_Q_wholeOf l H.size (u11 13 (u4 11 (r3 + 1).toNatClampNeg).toNatClampNeg) r36 hX) ⟨va_cnB (own := "QuakeServer$Machine") (index := 79) (host := "QuakeServer") 1 hg (qs_gc t_458) rfl rfl rfl (nM_5 hNs) (hg _ t_1) (by decide +kernel) ⟨Nat.le_of_ble_eq_true rfl, Nat.le_of_ble_eq_true rfl⟩, hg _ t_457, trivial⟩ ⟨qs_blind0, fun U hU hW => ⟨rfl, by rw [hU], hNs.warm hW⟩⟩ rfl rfl hl.1 rfl (lv_room (Nat.le_of_ble_eq_true rfl)) d_M_step_223 ⟨Nat.le_of_ble_eq_true rfl, Nat.le_of_ble_eq_true rfl⟩) hP hD hS hA (fun H locs hP hS => ?_)
    obtain ⟨r37, u38, hX, hF⟩ := qs_bn_some hF
    refine qs_cv (Wd := qs_W h c) (isC := [0, 1, 2, 3, 4, 5, 6, 7, 8, 9, 10, 11, 12, 13, 14, 15, 16]) (va_runV (own := "QuakeServer$Machine") (C := "QuakeServer$Entities") (As := [.int (r36)]) (rest := []) ⟨hx, hb, hml, hown, hg⟩ (c_E_erase l dC dI h c H.size u11 (r36)  u38 hX) (cwV 1 hg (qs_gV t_464 t_385 t_386 t_2 t_387) rfl rfl rfl (by decide +kernel) ⟨Nat.le_of_ble_eq_true rfl, Nat.le_of_ble_eq_true rfl⟩) ⟨qs_blind, va_recv hK hP (ci := 0) (q0 := 1) rfl rfl, fun U hU hW => ⟨rfl, by rw [hU], by rw [hU]; exact hP, va_K.moved hW.alike hK, hD.weaken (fun _ _ _ _ => trivial), hNs.warm hW⟩⟩ rfl rfl hl.1 rfl (lv_room (Nat.le_of_ble_eq_true rfl)) d_M_step_226 ⟨Nat.le_of_ble_eq_true rfl, Nat.le_of_ble_eq_true rfl⟩) rfl hP hD hS hA (fun H locs hP hD hS => ?_)
    refine lv_goto (tgt := 261) hx hb d_M_step_229 (by decide) ?_
    obtain ⟨h8, h9⟩ := qs_ret hF
    exact W.vret hx hb hr (fun t ht hW => ⟨⟨u38, rfl, h9, by rw [ht]; exact hP, va_K.moved hW.alike hK, hD⟩, hS.F ht⟩) hS.2.2 d_M_step_261
  have hF := qs_neg c34 hF
  by_cases c39 : u4 11 r3.toNatClampNeg = 14
  · have hF := qs_pos c39 hF
    refine lv_tableIn (tgt := 246) hx hb d_M_step_88 (by rw [c39]; decide) (by rw [c39]; decide) (by rw [c39]; rfl) (by decide) ?_
    refine lv_aload_n hx hb d_M_step_246 rfl (lv_at hl 5 rfl) ?_
    refine va_get (D := (dC, dI)) (ci := 3) (v := .ref (h 13)) (C := R_M) (T := T_M) (N := 11) hx hb hg in_M hown hK hP 4 rfl rfl 2 (by decide) (hg _ t_79) (fun _ h9 => h9) rfl d_M_step_247 ?_
    refine lv_iload hx hb d_M_step_250 (lv_at hl 0 rfl) ?_
    refine lv_aload_n hx hb d_M_step_252 rfl (lv_at hl 5 rfl) ?_
    refine lv_iload_n hx hb d_M_step_253 rfl (lv_at hl 3 rfl) ?_
    refine lv_iload_n hx hb d_M_step_254 rfl (lv_at hl 2 rfl) ?_
    refine lv_iload hx hb d_M_step_255 (lv_at hl 1 rfl) ?_
    obtain ⟨r40, u41, hX, hF⟩ := qs_bn_some hF
    refine qs_ci (Wd := qs_W h c) (isC := [0, 1, 2, 3, 4, 5, 6, 7, 8, 9, 10, 11, 12, 13, 14, 15, 16]) (va_runV (own := "QuakeServer$Machine") (C := "QuakeServer$Machine") (As := [.int (u4 11 r3.toNatClampNeg), .int (u4 11 (r3 + 1).toNatClampNeg), .int (u4 11 (r3 + 2).toNatClampNeg)]) (rest := [.int (u4 11 (r3 + 3).toNatClampNeg), .ref (h 13)]) ⟨hx, hb, hml, hown, hg⟩ (c_M_result l dC dI h c H.size u11 (u4 11 r3.toNatClampNeg) (u4 11 (r3 + 1).toNatClampNeg) (u4 11 (r3 + 2).toNatClampNeg) r40 u41 hX) (cwV 3 hg (qs_gV t_465 t_467 tp_6 t_5 t_468) rfl rfl rfl (by decide +kernel) ⟨Nat.le_of_ble_eq_true rfl, Nat.le_of_ble_eq_true rfl⟩) ⟨qs_blind, va_recv hK hP (ci := 3) (q0 := 4) rfl rfl, fun U hU hW => ⟨rfl, by rw [hU], by rw [hU]; exact hP, va_K.moved hW.alike hK, hD.weaken (fun _ _ _ _ => trivial), hNs.warm hW⟩⟩ rfl rfl hl.1 rfl (lv_room (Nat.le_of_ble_eq_true rfl)) d_M_step_257 ⟨Nat.le_of_ble_eq_true rfl, Nat.le_of_ble_eq_true rfl⟩) rfl hP hD hS hA (fun H locs hP hD hS => ?_)
    obtain ⟨c42, hF⟩ := qs_in_some hF
    refine va_iast hx hb hK hP hD hS 13 6 rfl rfl c42 d_M_step_260 (fun H locs hP hD hS => ?_)
    obtain ⟨u43, hu43, hF⟩ := qs_st_some hF
    have hP : va_P (dC, dI) vwCl (qs_W h c u43) H := by rw [hu43]; exact hP
    have hD : va_D A (qs_W h c u43) := by rw [hu43]; exact hD
    clear hu43
    obtain ⟨h8, h9⟩ := qs_ret hF
    exact W.vret hx hb hr (fun t ht hW => ⟨⟨u43, rfl, h9, by rw [ht]; exact hP, va_K.moved hW.alike hK, hD⟩, hS.F ht⟩) hS.2.2 d_M_step_261
  have hF := qs_neg c39 hF
  by_cases c44 : u4 11 r3.toNatClampNeg = 15
  · have hF := qs_pos c44 hF
    refine lv_tableIn (tgt := 246) hx hb d_M_step_88 (by rw [c44]; decide) (by rw [c44]; decide) (by rw [c44]; rfl) (by decide) ?_
    refine lv_aload_n hx hb d_M_step_246 rfl (lv_at hl 5 rfl) ?_
    refine va_get (D := (dC, dI)) (ci := 3) (v := .ref (h 13)) (C := R_M) (T := T_M) (N := 11) hx hb hg in_M hown hK hP 4 rfl rfl 2 (by decide) (hg _ t_79) (fun _ h9 => h9) rfl d_M_step_247 ?_
    refine lv_iload hx hb d_M_step_250 (lv_at hl 0 rfl) ?_
    refine lv_aload_n hx hb d_M_step_252 rfl (lv_at hl 5 rfl) ?_
    refine lv_iload_n hx hb d_M_step_253 rfl (lv_at hl 3 rfl) ?_
    refine lv_iload_n hx hb d_M_step_254 rfl (lv_at hl 2 rfl) ?_
    refine lv_iload hx hb d_M_step_255 (lv_at hl 1 rfl) ?_
    obtain ⟨r45, u46, hX, hF⟩ := qs_bn_some hF
    refine qs_ci (Wd := qs_W h c) (isC := [0, 1, 2, 3, 4, 5, 6, 7, 8, 9, 10, 11, 12, 13, 14, 15, 16]) (va_runV (own := "QuakeServer$Machine") (C := "QuakeServer$Machine") (As := [.int (u4 11 r3.toNatClampNeg), .int (u4 11 (r3 + 1).toNatClampNeg), .int (u4 11 (r3 + 2).toNatClampNeg)]) (rest := [.int (u4 11 (r3 + 3).toNatClampNeg), .ref (h 13)]) ⟨hx, hb, hml, hown, hg⟩ (c_M_result l dC dI h c H.size u11 (u4 11 r3.toNatClampNeg) (u4 11 (r3 + 1).toNatClampNeg) (u4 11 (r3 + 2).toNatClampNeg) r45 u46 hX) (cwV 3 hg (qs_gV t_465 t_467 tp_6 t_5 t_468) rfl rfl rfl (by decide +kernel) ⟨Nat.le_of_ble_eq_true rfl, Nat.le_of_ble_eq_true rfl⟩) ⟨qs_blind, va_recv hK hP (ci := 3) (q0 := 4) rfl rfl, fun U hU hW => ⟨rfl, by rw [hU], by rw [hU]; exact hP, va_K.moved hW.alike hK, hD.weaken (fun _ _ _ _ => trivial), hNs.warm hW⟩⟩ rfl rfl hl.1 rfl (lv_room (Nat.le_of_ble_eq_true rfl)) d_M_step_257 ⟨Nat.le_of_ble_eq_true rfl, Nat.le_of_ble_eq_true rfl⟩) rfl hP hD hS hA (fun H locs hP hD hS => ?_)
    obtain ⟨c47, hF⟩ := qs_in_some hF
    refine va_iast hx hb hK hP hD hS 13 6 rfl rfl c47 d_M_step_260 (fun H locs hP hD hS => ?_)
    obtain ⟨u48, hu48, hF⟩ := qs_st_some hF
    have hP : va_P (dC, dI) vwCl (qs_W h c u48) H := by rw [hu48]; exact hP
    have hD : va_D A (qs_W h c u48) := by rw [hu48]; exact hD
    clear hu48
    obtain ⟨h8, h9⟩ := qs_ret hF
    exact W.vret hx hb hr (fun t ht hW => ⟨⟨u48, rfl, h9, by rw [ht]; exact hP, va_K.moved hW.alike hK, hD⟩, hS.F ht⟩) hS.2.2 d_M_step_261
  have hF := qs_neg c44 hF
  by_cases c49 : u4 11 r3.toNatClampNeg = 16
  · have hF := qs_pos c49 hF
    refine lv_tableIn (tgt := 232) hx hb d_M_step_88 (by rw [c49]; decide) (by rw [c49]; decide) (by rw [c49]; rfl) (by decide) ?_
    refine lv_aload_n hx hb d_M_step_232 rfl (lv_at hl 5 rfl) ?_
    refine va_get (D := (dC, dI)) (ci := 3) (v := .ref (h 15)) (C := R_M) (T := T_M) (N := 11) hx hb hg in_M hown hK hP 4 rfl rfl 4 (by decide) (hg _ t_82) (fun _ h9 => h9) rfl d_M_step_233 ?_
    refine lv_aload_n hx hb d_M_step_236 rfl (lv_at hl 5 rfl) ?_
    refine va_get (D := (dC, dI)) (ci := 3) (v := .int (u11 21 0)) (C := R_M) (T := T_M) (N := 11) hx hb hg in_M hown hK hP 4 rfl rfl 5 (by decide) (hg _ t_83) (fun _ h9 => h9) rfl d_M_step_237 ?_
    refine lv_bipush (v := 14) hx hb d_M_step_240 (by decide) ?_
    obtain ⟨c50, hF⟩ := qs_in_some hF
    refine va_iast hx hb hK hP hD hS 15 8 rfl rfl c50 d_M_step_242 (fun H locs hP hD hS => ?_)
    obtain ⟨u51, hu51, hF⟩ := qs_st_some hF
    have hP : va_P (dC, dI) vwCl (qs_W h c u51) H := by rw [hu51]; exact hP
    have hD : va_D A (qs_W h c u51) := by rw [hu51]; exact hD
    clear hu51
    refine lv_goto (tgt := 261) hx hb d_M_step_243 (by decide) ?_
    obtain ⟨h8, h9⟩ := qs_ret hF
    exact W.vret hx hb hr (fun t ht hW => ⟨⟨u51, rfl, h9, by rw [ht]; exact hP, va_K.moved hW.alike hK, hD⟩, hS.F ht⟩) hS.2.2 d_M_step_261
  have hF := qs_neg c49 hF
  refine lv_tableOut (tgt := 246) hx hb d_M_step_88 (by have := lv_neT (a := 8) c12 (by decide); have := lv_neT (a := 9) c18 (by decide); have := lv_neT (a := 10) c23 (by decide); have := lv_neT (a := 11) c26 (by decide); have := lv_neT (a := 12) c29 (by decide); have := lv_neT (a := 13) c34 (by decide); have := lv_neT (a := 14) c39 (by decide); have := lv_neT (a := 15) c44 (by decide); have := lv_neT (a := 16) c49 (by decide); omega) (by decide) ?_
  refine lv_aload_n hx hb d_M_step_246 rfl (lv_at hl 5 rfl) ?_
  refine va_get (D := (dC, dI)) (ci := 3) (v := .ref (h 13)) (C := R_M) (T := T_M) (N := 11) hx hb hg in_M hown hK hP 4 rfl rfl 2 (by decide) (hg _ t_79) (fun _ h9 => h9) rfl d_M_step_247 ?_
  refine lv_iload hx hb d_M_step_250 (lv_at hl 0 rfl) ?_
  refine lv_aload_n hx hb d_M_step_252 rfl (lv_at hl 5 rfl) ?_
  refine lv_iload_n hx hb d_M_step_253 rfl (lv_at hl 3 rfl) ?_
  refine lv_iload_n hx hb d_M_step_254 rfl (lv_at hl 2 rfl) ?_
  refine lv_iload hx hb d_M_step_255 (lv_at hl 1 rfl) ?_
  obtain ⟨r52, u53, hX, hF⟩ := qs_bn_some hF
  refine qs_ci (Wd := qs_W h c) (isC := [0, 1, 2, 3, 4, 5, 6, 7, 8, 9, 10, 11, 12, 13, 14, 15, 16]) (va_runV (own := "QuakeServer$Machine") (C := "QuakeServer$Machine") (As := [.int (u4 11 r3.toNatClampNeg), .int (u4 11 (r3 + 1).toNatClampNeg), .int (u4 11 (r3 + 2).toNatClampNeg)]) (rest := [.int (u4 11 (r3 + 3).toNatClampNeg), .ref (h 13)]) ⟨hx, hb, hml, hown, hg⟩ (c_M_result l dC dI h c H.size u11 (u4 11 r3.toNatClampNeg) (u4 11 (r3 + 1).toNatClampNeg) (u4 11 (r3 + 2).toNatClampNeg) r52 u53 hX) (cwV 3 hg (qs_gV t_465 t_467 tp_6 t_5 t_468) rfl rfl rfl (by decide +kernel) ⟨Nat.le_of_ble_eq_true rfl, Nat.le_of_ble_eq_true rfl⟩) ⟨qs_blind, va_recv hK hP (ci := 3) (q0 := 4) rfl rfl, fun U hU hW => ⟨rfl, by rw [hU], by rw [hU]; exact hP, va_K.moved hW.alike hK, hD.weaken (fun _ _ _ _ => trivial), hNs.warm hW⟩⟩ rfl rfl hl.1 rfl (lv_room (Nat.le_of_ble_eq_true rfl)) d_M_step_257 ⟨Nat.le_of_ble_eq_true rfl, Nat.le_of_ble_eq_true rfl⟩) rfl hP hD hS hA (fun H locs hP hD hS => ?_)
  obtain ⟨c54, hF⟩ := qs_in_some hF
  refine va_iast hx hb hK hP hD hS 13 6 rfl rfl c54 d_M_step_260 (fun H locs hP hD hS => ?_)
  obtain ⟨u55, hu55, hF⟩ := qs_st_some hF
  have hP : va_P (dC, dI) vwCl (qs_W h c u55) H := by rw [hu55]; exact hP
  have hD : va_D A (qs_W h c u55) := by rw [hu55]; exact hD
  clear hu55
  obtain ⟨h8, h9⟩ := qs_ret hF
  exact W.vret hx hb hr (fun t ht hW => ⟨⟨u55, rfl, h9, by rw [ht]; exact hP, va_K.moved hW.alike hK, hD⟩, hS.F ht⟩) hS.2.2 d_M_step_261

theorem d_M_perform_0 : decode b_M_perform 0 = .ok (.aload_n 0, 1) := by decide +kernel
theorem d_M_perform_1 : decode b_M_perform 1 = .ok (.iconst 0, 1) := by decide +kernel
theorem d_M_perform_2 : decode b_M_perform 2 = .ok (.putfield 51, 3) := by decide +kernel
theorem d_M_perform_5 : decode b_M_perform 5 = .ok (.aload_n 0, 1) := by decide +kernel
theorem d_M_perform_6 : decode b_M_perform 6 = .ok (.iconst 0, 1) := by decide +kernel
theorem d_M_perform_7 : decode b_M_perform 7 = .ok (.putfield 54, 3) := by decide +kernel
theorem d_M_perform_10 : decode b_M_perform 10 = .ok (.aload_n 0, 1) := by decide +kernel
theorem d_M_perform_11 : decode b_M_perform 11 = .ok (.getfield 15, 3) := by decide +kernel
theorem d_M_perform_14 : decode b_M_perform 14 = .ok (.iconst 0, 1) := by decide +kernel
theorem d_M_perform_15 : decode b_M_perform 15 = .ok (.iload_n 1, 1) := by decide +kernel
theorem d_M_perform_16 : decode b_M_perform 16 = .ok (.iastore, 1) := by decide +kernel
theorem d_M_perform_17 : decode b_M_perform 17 = .ok (.aload_n 0, 1) := by decide +kernel
theorem d_M_perform_18 : decode b_M_perform 18 = .ok (.getfield 18, 3) := by decide +kernel
theorem d_M_perform_21 : decode b_M_perform 21 = .ok (.iconst 0, 1) := by decide +kernel
theorem d_M_perform_22 : decode b_M_perform 22 = .ok (.iconst 0, 1) := by decide +kernel
theorem d_M_perform_23 : decode b_M_perform 23 = .ok (.iastore, 1) := by decide +kernel
theorem d_M_perform_24 : decode b_M_perform 24 = .ok (.aload_n 0, 1) := by decide +kernel
theorem d_M_perform_25 : decode b_M_perform 25 = .ok (.invokevirtual 58, 3) := by decide +kernel
theorem d_M_perform_28 : decode b_M_perform 28 = .ok (.iconst 0, 1) := by decide +kernel
theorem d_M_perform_29 : decode b_M_perform 29 = .ok (.istore_n 2, 1) := by decide +kernel
theorem d_M_perform_30 : decode b_M_perform 30 = .ok (.iload_n 2, 1) := by decide +kernel
theorem d_M_perform_31 : decode b_M_perform 31 = .ok (.bipush 60, 2) := by decide +kernel
theorem d_M_perform_33 : decode b_M_perform 33 = .ok (.if_icmp .ge 31, 3) := by decide +kernel
theorem d_M_perform_36 : decode b_M_perform 36 = .ok (.aload_n 0, 1) := by decide +kernel
theorem d_M_perform_37 : decode b_M_perform 37 = .ok (.getfield 51, 3) := by decide +kernel
theorem d_M_perform_40 : decode b_M_perform 40 = .ok (.ifCond .lt 24, 3) := by decide +kernel
theorem d_M_perform_43 : decode b_M_perform 43 = .ok (.aload_n 0, 1) := by decide +kernel
theorem d_M_perform_44 : decode b_M_perform 44 = .ok (.getfield 54, 3) := by decide +kernel
theorem d_M_perform_47 : decode b_M_perform 47 = .ok (.ifCond .ne 17, 3) := by decide +kernel
theorem d_M_perform_50 : decode b_M_perform 50 = .ok (.aload_n 0, 1) := by decide +kernel
theorem d_M_perform_51 : decode b_M_perform 51 = .ok (.invokevirtual 61, 3) := by decide +kernel
theorem d_M_perform_54 : decode b_M_perform 54 = .ok (.iinc 2 1, 3) := by decide +kernel
theorem d_M_perform_57 : decode b_M_perform 57 = .ok (.aload_n 0, 1) := by decide +kernel
theorem d_M_perform_58 : decode b_M_perform 58 = .ok (.invokevirtual 58, 3) := by decide +kernel
theorem d_M_perform_61 : decode b_M_perform 61 = .ok (.goto (-31), 3) := by decide +kernel
theorem d_M_perform_64 : decode b_M_perform 64 = .ok (.aload_n 0, 1) := by decide +kernel
theorem d_M_perform_65 : decode b_M_perform 65 = .ok (.getfield 51, 3) := by decide +kernel
theorem d_M_perform_68 : decode b_M_perform 68 = .ok (.ifCond .ge 10, 3) := by decide +kernel
theorem d_M_perform_71 : decode b_M_perform 71 = .ok (.aload_n 0, 1) := by decide +kernel
theorem d_M_perform_72 : decode b_M_perform 72 = .ok (.getfield 54, 3) := by decide +kernel
theorem d_M_perform_75 : decode b_M_perform 75 = .ok (.ifCond .eq 13, 3) := by decide +kernel
theorem d_M_perform_78 : decode b_M_perform 78 = .ok (.aload_n 0, 1) := by decide +kernel
theorem d_M_perform_79 : decode b_M_perform 79 = .ok (.dup, 1) := by decide +kernel
theorem d_M_perform_80 : decode b_M_perform 80 = .ok (.getfield 64, 3) := by decide +kernel
theorem d_M_perform_83 : decode b_M_perform 83 = .ok (.iconst 1, 1) := by decide +kernel
theorem d_M_perform_84 : decode b_M_perform 84 = .ok (.iadd, 1) := by decide +kernel
theorem d_M_perform_85 : decode b_M_perform 85 = .ok (.putfield 64, 3) := by decide +kernel
theorem d_M_perform_88 : decode b_M_perform 88 = .ok (.iload_n 2, 1) := by decide +kernel
theorem d_M_perform_89 : decode b_M_perform 89 = .ok (.ireturn, 1) := by decide +kernel
def f_M_perform_78  (g : Sg) (x2 : Int32) : Option (Int32 × Sg) := (qs_st (qs_i g 25 ((g 25 0) + 1)) fun u18 => (some (x2, u18)))
def f_M_perform_64  (g : Sg) (x2 : Int32) : Option (Int32 × Sg) := (if 0 ≤ (g 21 0) then (f_M_perform_78 g (x2)) else (if (g 22 0) = 0 then (some (x2, g)) else (f_M_perform_78 g (x2))))
def f_M_perform_30  : Nat → Sg → Int32 → Option (Int32 × Sg)
  | 0, _, _ => none
  | n + 1, g, x2 => (if 60 ≤ x2 then (f_M_perform_64 g (x2)) else (if (g 21 0) < 0 then (f_M_perform_64 g (x2)) else (if (g 22 0) = 0 then (qs_bn (f_M_step g ) fun _ u13 => (qs_bn (f_M_leaveEndedFunctions u13 ) fun _ u15 => (f_M_perform_30 n u15 (x2 + 1)))) else (f_M_perform_64 g (x2)))))
def f_M_perform (g : Sg) (a1 : Int32) : Option (Int32 × Sg) := (qs_st (qs_i g 21 (0)) fun u1 => (qs_st (qs_i u1 22 (0)) fun u2 => (qs_in (0) 6 (qs_st (qs_a u2 14 (0 : Int32).toNatClampNeg (a1)) fun u4 => (qs_in (0) 6 (qs_st (qs_a u4 15 (0 : Int32).toNatClampNeg (0)) fun u6 => (qs_bn (f_M_leaveEndedFunctions u6 ) fun _ u8 => (f_M_perform_30 200 u8 (0)))))))))
set_option maxHeartbeats 4000000 in
set_option maxRecDepth 100000 in
theorem c_M_perform (l : Launch) (dC : Nat → ClassId) (dI : Nat → Nat → Nat) (h : Nat → Nat) (c : Nat → ClassId) (sz : Nat) (g : Sg) (a1 : Int32) (r0 : Int32) (u0 : Sg) (hF : f_M_perform g a1 = some (r0, u0)) : Met l y_M_perform (qs_ws y_M_perform b_M_perform 3 (some .int)) ({ frames := 3, cells := 0, slots := 0, locals := 73 } : Room) (va_Pc ([.ref (h 4), .int a1] : List Value) (fun U => U.heap.size = sz ∧ va_P (dC, dI) vwCl (qs_W h c g) U.heap ∧ va_K (dC, dI) vwCl (qs_T c) U ∧ va_D (fun _ => True) (qs_W h c g) ∧ qs_N U)) (va_Qi (fun (r : Int32) (u : Sg) => r = r0 ∧ u = u0) (qs_at dC dI h c (va_A (qs_W h c g) sz)) (va_A (qs_W h c g) sz)) 0 0 (va_A (qs_W h c g) sz) := by
  refine Met.ofW (cc := b_M_perform) (maxL := 3) (ret := (some .int)) (by decide +kernel) rfl ?_
  intro p e s m args below meth cd s₁ B hml hv
  obtain ⟨rfl, hsz, hP, hK, hD0, hNs⟩ := hv
  have hx := B.exec
  have hb := B.bytes
  have hr := B.returns
  have hts := atoms_spec (ws := (qs_ws y_M_perform b_M_perform 3 (some .int))) B.pre
  have hg : ∀ w ∈ qs_gt, w.before _ s = true := fun w h => hts w (List.mem_cons_of_mem _ h)
  have hown : s.vm.findClass R_M = some m.cls := findClass_of_methodNamed B.named
  have hlocks := B.notSynchronized
  subst hsz
  have hD := hD0.self (sz := s.heap.size)
  generalize hAe : va_A (qs_W h c g) s.heap.size = A at hD ⊢
  have hA : ∀ q : Nat, s.heap.size ≤ q → A q := fun q h => by rw [← hAe]; exact Or.inr h
  have hS : va_S A s.heap s.heap [] := va_S.rf
  have kb_78 : ∀ (g : Sg) (x2 : Int32) (H : Heap) (locs : List Loc) (ls : Array Slot), va_P (dC, dI) vwCl (qs_W h c g) H → va_D A (qs_W h c g) → va_S A s.heap H locs → lv_has ls 3 [(0, .ref (h 4)), (2, .int (x2))] → f_M_perform_78  g x2 = some (r0, u0) → W p l e (headSpec (qs_ws y_M_perform b_M_perform 3 (some .int)) ({ frames := 3, cells := 0, slots := 0, locals := 73 } : Room)).room s m ([.ref (h 4), .int a1] : List Value).toArray below meth cd H locs 0 0 (MQ below (va_Qi (fun (r : Int32) (u : Sg) => r = r0 ∧ u = u0) (qs_at dC dI h c A) A) ([.ref (h 4), .int a1] : List Value).toArray s 0 0 A) (F0 m 78 ls []) := by
    intro g x2 H locs ls hP hD hS hl hF
    unfold f_M_perform_78 at hF
    refine lv_aload_n hx hb d_M_perform_78 rfl (lv_at hl 0 rfl) ?_
    refine lv_dup hx hb d_M_perform_79 rfl ?_
    refine va_get (D := (dC, dI)) (ci := 3) (v := .int (g 25 0)) (C := R_M) (T := T_M) (N := 11) hx hb hg in_M hown hK hP 4 rfl rfl 9 (by decide) (hg _ t_90) (fun _ h9 => h9) rfl d_M_perform_80 ?_
    refine lv_iconst (v := 1) hx hb d_M_perform_83 (by decide) ?_
    refine lv_iadd hx hb d_M_perform_84 ?_
    refine va_put (D := (dC, dI)) (ci := 3) (v := .int ((g 25 0) + 1)) (ty := .int) (C := R_M) (T := T_M) (N := 11) hx hb hg in_M ty_M ty_M_ok nm_M hown hK hP hD hS 4 rfl rfl 9 (by decide) (hg _ t_90) (fun _ h9 => h9) rfl (by decide +kernel) rfl rfl (Nat.le_of_ble_eq_true rfl) d_M_perform_85 (fun H locs hP hD hS => ?_)
    obtain ⟨u18, hu18, hF⟩ := qs_st_some hF
    have hP : va_P (dC, dI) vwCl (qs_W h c u18) H := by rw [hu18]; exact hP
    have hD : va_D A (qs_W h c u18) := by rw [hu18]; exact hD
    clear hu18
    refine lv_iload_n hx hb d_M_perform_88 rfl (lv_at hl 1 rfl) ?_
    obtain ⟨h8, h9⟩ := qs_ret hF
    exact W.iret (v := x2) hx hb hr (fun t ht hW => ⟨⟨x2, u18, rfl, ⟨h8, h9⟩, by rw [ht]; exact hP, va_K.moved hW.alike hK, hD⟩, hS.F ht⟩) hS.2.2 d_M_perform_89
  have kb_64 : ∀ (g : Sg) (x2 : Int32) (H : Heap) (locs : List Loc) (ls : Array Slot), va_P (dC, dI) vwCl (qs_W h c g) H → va_D A (qs_W h c g) → va_S A s.heap H locs → lv_has ls 3 [(0, .ref (h 4)), (2, .int (x2))] → f_M_perform_64  g x2 = some (r0, u0) → W p l e (headSpec (qs_ws y_M_perform b_M_perform 3 (some .int)) ({ frames := 3, cells := 0, slots := 0, locals := 73 } : Room)).room s m ([.ref (h 4), .int a1] : List Value).toArray below meth cd H locs 0 0 (MQ below (va_Qi (fun (r : Int32) (u : Sg) => r = r0 ∧ u = u0) (qs_at dC dI h c A) A) ([.ref (h 4), .int a1] : List Value).toArray s 0 0 A) (F0 m 64 ls []) := by
    intro g x2 H locs ls hP hD hS hl hF
    unfold f_M_perform_64 at hF
    refine lv_aload_n hx hb d_M_perform_64 rfl (lv_at hl 0 rfl) ?_
    refine va_get (D := (dC, dI)) (ci := 3) (v := .int (g 21 0)) (C := R_M) (T := T_M) (N := 11) hx hb hg in_M hown hK hP 4 rfl rfl 5 (by decide) (hg _ t_83) (fun _ h9 => h9) rfl d_M_perform_65 ?_
    refine lv_if_ge (tgt := 78) hx hb d_M_perform_68 (by decide) (fun c16 => ?_) (fun c16 => ?_)
    · have hF := qs_pos c16 hF
      exact kb_78 g (x2) H locs ls hP hD hS (lv_sub hl [0, 1] rfl) hF
    · have hF := qs_neg c16 hF
      refine lv_aload_n hx hb d_M_perform_71 rfl (lv_at hl 0 rfl) ?_
      refine va_get (D := (dC, dI)) (ci := 3) (v := .int (g 22 0)) (C := R_M) (T := T_M) (N := 11) hx hb hg in_M hown hK hP 4 rfl rfl 6 (by decide) (hg _ t_84) (fun _ h9 => h9) rfl d_M_perform_72 ?_
      refine lv_if_eq (tgt := 88) hx hb d_M_perform_75 (by decide) (fun c17 => ?_) (fun c17 => ?_)
      · have hF := qs_pos c17 hF
        refine lv_iload_n hx hb d_M_perform_88 rfl (lv_at hl 1 rfl) ?_
        obtain ⟨h8, h9⟩ := qs_ret hF
        exact W.iret (v := x2) hx hb hr (fun t ht hW => ⟨⟨x2, g, rfl, ⟨h8, h9⟩, by rw [ht]; exact hP, va_K.moved hW.alike hK, hD⟩, hS.F ht⟩) hS.2.2 d_M_perform_89
      · have hF := qs_neg c17 hF
        exact kb_78 g (x2) H locs ls hP hD hS (lv_sub hl [0, 1] rfl) hF
  have kb_30 : ∀ n : Nat, ∀ (g : Sg) (x2 : Int32) (H : Heap) (locs : List Loc) (ls : Array Slot), va_P (dC, dI) vwCl (qs_W h c g) H → va_D A (qs_W h c g) → va_S A s.heap H locs → lv_has ls 3 [(0, .ref (h 4)), (2, .int (x2))] → f_M_perform_30 n g x2 = some (r0, u0) → W p l e (headSpec (qs_ws y_M_perform b_M_perform 3 (some .int)) ({ frames := 3, cells := 0, slots := 0, locals := 73 } : Room)).room s m ([.ref (h 4), .int a1] : List Value).toArray below meth cd H locs 0 0 (MQ below (va_Qi (fun (r : Int32) (u : Sg) => r = r0 ∧ u = u0) (qs_at dC dI h c A) A) ([.ref (h 4), .int a1] : List Value).toArray s 0 0 A) (F0 m 30 ls []) := by
    intro n
    induction n with
    | zero =>
      intro g x2 H locs ls hP hD hS hl hF
      exact nomatch (show (none : Option (Int32 × Sg)) = some _ from hF)
    | succ n ih =>
      intro g x2 H locs ls hP hD hS hl hF
      rw [f_M_perform_30] at hF
      refine lv_iload_n hx hb d_M_perform_30 rfl (lv_at hl 1 rfl) ?_
      refine lv_bipush (v := 60) hx hb d_M_perform_31 (by decide) ?_
      refine lv_icmp_ge (tgt := 64) hx hb d_M_perform_33 (by decide) (fun c9 => ?_) (fun c9 => ?_)
      · have hF := qs_pos c9 hF
        exact kb_64 g (x2) H locs ls hP hD hS (lv_sub hl [0, 1] rfl) hF
      · have hF := qs_neg c9 hF
        refine lv_aload_n hx hb d_M_perform_36 rfl (lv_at hl 0 rfl) ?_
        refine va_get (D := (dC, dI)) (ci := 3) (v := .int (g 21 0)) (C := R_M) (T := T_M) (N := 11) hx hb hg in_M hown hK hP 4 rfl rfl 5 (by decide) (hg _ t_83) (fun _ h9 => h9) rfl d_M_perform_37 ?_
        refine lv_if_lt (tgt := 64) hx hb d_M_perform_40 (by decide) (fun c10 => ?_) (fun c10 => ?_)
        · have hF := qs_pos c10 hF
          exact kb_64 g (x2) H locs ls hP hD hS (lv_sub hl [0, 1] rfl) hF
        · have hF := qs_neg c10 hF
          refine lv_aload_n hx hb d_M_perform_43 rfl (lv_at hl 0 rfl) ?_
          refine va_get (D := (dC, dI)) (ci := 3) (v := .int (g 22 0)) (C := R_M) (T := T_M) (N := 11) hx hb hg in_M hown hK hP 4 rfl rfl 6 (by decide) (hg _ t_84) (fun _ h9 => h9) rfl d_M_perform_44 ?_
          refine lv_if_ne (tgt := 64) hx hb d_M_perform_47 (by decide) (fun c11 => ?_) (fun c11 => ?_)
          · have hF := qs_neg c11 hF
            exact kb_64 g (x2) H locs ls hP hD hS (lv_sub hl [0, 1] rfl) hF
          · have hF := qs_pos c11 hF
            refine lv_aload_n hx hb d_M_perform_50 rfl (lv_at hl 0 rfl) ?_
            obtain ⟨r12, u13, hX, hF⟩ := qs_bn_some hF
            refine qs_cv (Wd := qs_W h c) (isC := [0, 1, 2, 3, 4, 5, 6, 7, 8, 9, 10, 11, 12, 13, 14, 15, 16]) (va_runV (own := "QuakeServer$Machine") (C := "QuakeServer$Machine") (As := []) (rest := []) ⟨hx, hb, hml, hown, hg⟩ (c_M_step l dC dI h c H.size g   u13 hX) (cwV 0 hg (qs_gV t_451 t_453 tp_4 t_5 t_454) rfl rfl rfl (by decide +kernel) ⟨Nat.le_of_ble_eq_true rfl, Nat.le_of_ble_eq_true rfl⟩) ⟨qs_blind, va_recv hK hP (ci := 3) (q0 := 4) rfl rfl, fun U hU hW => ⟨rfl, by rw [hU], by rw [hU]; exact hP, va_K.moved hW.alike hK, hD.weaken (fun _ _ _ _ => trivial), hNs.warm hW⟩⟩ rfl rfl hl.1 rfl (lv_room (Nat.le_of_ble_eq_true rfl)) d_M_perform_51 ⟨Nat.le_of_ble_eq_true rfl, Nat.le_of_ble_eq_true rfl⟩) rfl hP hD hS hA (fun H locs hP hD hS => ?_)
            refine lv_iinc (v := x2 + 1) (lv' := [(2, .int (x2 + 1)), (0, .ref (h 4))]) hx hb d_M_perform_54 hl (k := 1) rfl (by rfl) (by decide) rfl (fun ls hl => ?_)
            refine lv_aload_n hx hb d_M_perform_57 rfl (lv_at hl 1 rfl) ?_
            obtain ⟨r14, u15, hX, hF⟩ := qs_bn_some hF
            refine qs_cv (Wd := qs_W h c) (isC := [0, 1, 2, 3, 4, 5, 6, 7, 8, 9, 10, 11, 12, 13, 14, 15, 16]) (va_runV (own := "QuakeServer$Machine") (C := "QuakeServer$Machine") (As := []) (rest := []) ⟨hx, hb, hml, hown, hg⟩ (c_M_leaveEndedFunctions l dC dI h c H.size u13   u15 hX) (cwV 0 hg (qs_gV t_446 t_448 tp_3 t_5 t_449) rfl rfl rfl (by decide +kernel) ⟨Nat.le_of_ble_eq_true rfl, Nat.le_of_ble_eq_true rfl⟩) ⟨qs_blind, va_recv hK hP (ci := 3) (q0 := 4) rfl rfl, fun U hU hW => ⟨rfl, by rw [hU], by rw [hU]; exact hP, va_K.moved hW.alike hK, hD.weaken (fun _ _ _ _ => trivial), hNs.warm hW⟩⟩ rfl rfl hl.1 rfl (lv_room (Nat.le_of_ble_eq_true rfl)) d_M_perform_58 ⟨Nat.le_of_ble_eq_true rfl, Nat.le_of_ble_eq_true rfl⟩) rfl hP hD hS hA (fun H locs hP hD hS => ?_)
            refine lv_goto (tgt := 30) hx hb d_M_perform_61 (by decide) ?_
            exact ih u15 (x2 + 1) H locs ls hP hD hS (lv_sub hl [1, 0] rfl) hF
  have hl := lv_entry ([.ref (h 4), .int a1] : List Value) (n := 3) (Nat.le_of_ble_eq_true rfl)
  rw [lg_entry_eq]
  generalize (lg_sl ([.ref (h 4), .int a1] : List Value) ++ List.replicate (3 - (lg_sl ([.ref (h 4), .int a1] : List Value)).length) Slot.unset).toArray = ls at hl ⊢
  have hl : lv_has ls 3 [(0, .ref (h 4)), (1, .int (a1))] := hl
  unfold f_M_perform at hF
  obtain ⟨H, hHe⟩ : ∃ H, H = s.heap := ⟨_, rfl⟩
  obtain ⟨locs, hLe⟩ : ∃ L : List Loc, L = [] := ⟨_, rfl⟩
  rw [← hHe] at hP ⊢
  rw [← hLe]
  have hS : va_S A s.heap H locs := by rw [hHe, hLe]; exact hS
  refine lv_aload_n hx hb d_M_perform_0 rfl (lv_at hl 0 rfl) ?_
  refine lv_iconst (v := 0) hx hb d_M_perform_1 (by decide) ?_
  refine va_put (D := (dC, dI)) (ci := 3) (v := .int (0)) (ty := .int) (C := R_M) (T := T_M) (N := 11) hx hb hg in_M ty_M ty_M_ok nm_M hown hK hP hD hS 4 rfl rfl 5 (by decide) (hg _ t_83) (fun _ h9 => h9) rfl (by decide +kernel) rfl rfl (Nat.le_of_ble_eq_true rfl) d_M_perform_2 (fun H locs hP hD hS => ?_)
  obtain ⟨u1, hu1, hF⟩ := qs_st_some hF
  have hP : va_P (dC, dI) vwCl (qs_W h c u1) H := by rw [hu1]; exact hP
  have hD : va_D A (qs_W h c u1) := by rw [hu1]; exact hD
  clear hu1
  refine lv_aload_n hx hb d_M_perform_5 rfl (lv_at hl 0 rfl) ?_
  refine lv_iconst (v := 0) hx hb d_M_perform_6 (by decide) ?_
  refine va_put (D := (dC, dI)) (ci := 3) (v := .int (0)) (ty := .boolean) (C := R_M) (T := T_M) (N := 11) hx hb hg in_M ty_M ty_M_ok nm_M hown hK hP hD hS 4 rfl rfl 6 (by decide) (hg _ t_84) (fun _ h9 => h9) rfl (by decide +kernel) rfl rfl (Nat.le_of_ble_eq_true rfl) d_M_perform_7 (fun H locs hP hD hS => ?_)
  obtain ⟨u2, hu2, hF⟩ := qs_st_some hF
  have hP : va_P (dC, dI) vwCl (qs_W h c u2) H := by rw [hu2]; exact hP
  have hD : va_D A (qs_W h c u2) := by rw [hu2]; exact hD
  clear hu2
  refine lv_aload_n hx hb d_M_perform_10 rfl (lv_at hl 0 rfl) ?_
  refine va_get (D := (dC, dI)) (ci := 3) (v := .ref (h 14)) (C := R_M) (T := T_M) (N := 11) hx hb hg in_M hown hK hP 4 rfl rfl 3 (by decide) (hg _ t_81) (fun _ h9 => h9) rfl d_M_perform_11 ?_
  refine lv_iconst (v := 0) hx hb d_M_perform_14 (by decide) ?_
  refine lv_iload_n hx hb d_M_perform_15 rfl (lv_at hl 1 rfl) ?_
  obtain ⟨c3, hF⟩ := qs_in_some hF
  refine va_iast hx hb hK hP hD hS 14 7 rfl rfl c3 d_M_perform_16 (fun H locs hP hD hS => ?_)
  obtain ⟨u4, hu4, hF⟩ := qs_st_some hF
  have hP : va_P (dC, dI) vwCl (qs_W h c u4) H := by rw [hu4]; exact hP
  have hD : va_D A (qs_W h c u4) := by rw [hu4]; exact hD
  clear hu4
  refine lv_aload_n hx hb d_M_perform_17 rfl (lv_at hl 0 rfl) ?_
  refine va_get (D := (dC, dI)) (ci := 3) (v := .ref (h 15)) (C := R_M) (T := T_M) (N := 11) hx hb hg in_M hown hK hP 4 rfl rfl 4 (by decide) (hg _ t_82) (fun _ h9 => h9) rfl d_M_perform_18 ?_
  refine lv_iconst (v := 0) hx hb d_M_perform_21 (by decide) ?_
  refine lv_iconst (v := 0) hx hb d_M_perform_22 (by decide) ?_
  obtain ⟨c5, hF⟩ := qs_in_some hF
  refine va_iast hx hb hK hP hD hS 15 8 rfl rfl c5 d_M_perform_23 (fun H locs hP hD hS => ?_)
  obtain ⟨u6, hu6, hF⟩ := qs_st_some hF
  have hP : va_P (dC, dI) vwCl (qs_W h c u6) H := by rw [hu6]; exact hP
  have hD : va_D A (qs_W h c u6) := by rw [hu6]; exact hD
  clear hu6
  refine lv_aload_n hx hb d_M_perform_24 rfl (lv_at hl 0 rfl) ?_
  obtain ⟨r7, u8, hX, hF⟩ := qs_bn_some hF
  refine qs_cv (Wd := qs_W h c) (isC := [0, 1, 2, 3, 4, 5, 6, 7, 8, 9, 10, 11, 12, 13, 14, 15, 16]) (va_runV (own := "QuakeServer$Machine") (C := "QuakeServer$Machine") (As := []) (rest := []) ⟨hx, hb, hml, hown, hg⟩ (c_M_leaveEndedFunctions l dC dI h c H.size u6   u8 hX) (cwV 0 hg (qs_gV t_446 t_448 tp_3 t_5 t_449) rfl rfl rfl (by decide +kernel) ⟨Nat.le_of_ble_eq_true rfl, Nat.le_of_ble_eq_true rfl⟩) ⟨qs_blind, va_recv hK hP (ci := 3) (q0 := 4) rfl rfl, fun U hU hW => ⟨rfl, by rw [hU], by rw [hU]; exact hP, va_K.moved hW.alike hK, hD.weaken (fun _ _ _ _ => trivial), hNs.warm hW⟩⟩ rfl rfl hl.1 rfl (lv_room (Nat.le_of_ble_eq_true rfl)) d_M_perform_25 ⟨Nat.le_of_ble_eq_true rfl, Nat.le_of_ble_eq_true rfl⟩) rfl hP hD hS hA (fun H locs hP hD hS => ?_)
  refine lv_iconst (v := 0) hx hb d_M_perform_28 (by decide) ?_
  refine lv_istore_n (lv' := [(2, .int (0)), (0, .ref (h 4)), (1, .int (a1))]) hx hb d_M_perform_29 rfl hl (by decide) rfl (fun ls hl => ?_)
  exact kb_30 200 u8 (0) H locs ls hP hD hS (lv_sub hl [1, 0] rfl) hF

theorem d_M_start_0 : decode b_M_start 0 = .ok (.iload_n 1, 1) := by decide +kernel
theorem d_M_start_1 : decode b_M_start 1 = .ok (.bipush 6, 2) := by decide +kernel
theorem d_M_start_3 : decode b_M_start 3 = .ok (.invokestatic 40, 3) := by decide +kernel
theorem d_M_start_6 : decode b_M_start 6 = .ok (.ifCond .ne 5, 3) := by decide +kernel
theorem d_M_start_9 : decode b_M_start 9 = .ok (.iconst 0, 1) := by decide +kernel
theorem d_M_start_10 : decode b_M_start 10 = .ok (.ireturn, 1) := by decide +kernel
theorem d_M_start_11 : decode b_M_start 11 = .ok (.aload_n 0, 1) := by decide +kernel
theorem d_M_start_12 : decode b_M_start 12 = .ok (.getfield 9, 3) := by decide +kernel
theorem d_M_start_15 : decode b_M_start 15 = .ok (.bipush 20, 2) := by decide +kernel
theorem d_M_start_17 : decode b_M_start 17 = .ok (.iaload, 1) := by decide +kernel
theorem d_M_start_18 : decode b_M_start 18 = .ok (.istore 4, 2) := by decide +kernel
theorem d_M_start_20 : decode b_M_start 20 = .ok (.aload_n 0, 1) := by decide +kernel
theorem d_M_start_21 : decode b_M_start 21 = .ok (.getfield 9, 3) := by decide +kernel
theorem d_M_start_24 : decode b_M_start 24 = .ok (.bipush 21, 2) := by decide +kernel
theorem d_M_start_26 : decode b_M_start 26 = .ok (.iaload, 1) := by decide +kernel
theorem d_M_start_27 : decode b_M_start 27 = .ok (.istore 5, 2) := by decide +kernel
theorem d_M_start_29 : decode b_M_start 29 = .ok (.aload_n 0, 1) := by decide +kernel
theorem d_M_start_30 : decode b_M_start 30 = .ok (.getfield 9, 3) := by decide +kernel
theorem d_M_start_33 : decode b_M_start 33 = .ok (.bipush 20, 2) := by decide +kernel
theorem d_M_start_35 : decode b_M_start 35 = .ok (.iload_n 2, 1) := by decide +kernel
theorem d_M_start_36 : decode b_M_start 36 = .ok (.bipush 8, 2) := by decide +kernel
theorem d_M_start_38 : decode b_M_start 38 = .ok (.imul, 1) := by decide +kernel
theorem d_M_start_39 : decode b_M_start 39 = .ok (.iastore, 1) := by decide +kernel
theorem d_M_start_40 : decode b_M_start 40 = .ok (.aload_n 0, 1) := by decide +kernel
theorem d_M_start_41 : decode b_M_start 41 = .ok (.getfield 9, 3) := by decide +kernel
theorem d_M_start_44 : decode b_M_start 44 = .ok (.bipush 21, 2) := by decide +kernel
theorem d_M_start_46 : decode b_M_start 46 = .ok (.iload_n 3, 1) := by decide +kernel
theorem d_M_start_47 : decode b_M_start 47 = .ok (.bipush 8, 2) := by decide +kernel
theorem d_M_start_49 : decode b_M_start 49 = .ok (.imul, 1) := by decide +kernel
theorem d_M_start_50 : decode b_M_start 50 = .ok (.iastore, 1) := by decide +kernel
theorem d_M_start_51 : decode b_M_start 51 = .ok (.aload_n 0, 1) := by decide +kernel
theorem d_M_start_52 : decode b_M_start 52 = .ok (.getfield 9, 3) := by decide +kernel
theorem d_M_start_55 : decode b_M_start 55 = .ok (.bipush 22, 2) := by decide +kernel
theorem d_M_start_57 : decode b_M_start 57 = .ok (.aload_n 0, 1) := by decide +kernel
theorem d_M_start_58 : decode b_M_start 58 = .ok (.getfield 33, 3) := by decide +kernel
theorem d_M_start_61 : decode b_M_start 61 = .ok (.iastore, 1) := by decide +kernel
theorem d_M_start_62 : decode b_M_start 62 = .ok (.aload_n 0, 1) := by decide +kernel
theorem d_M_start_63 : decode b_M_start 63 = .ok (.iload_n 1, 1) := by decide +kernel
theorem d_M_start_64 : decode b_M_start 64 = .ok (.invokevirtual 44, 3) := by decide +kernel
theorem d_M_start_67 : decode b_M_start 67 = .ok (.istore 6, 2) := by decide +kernel
theorem d_M_start_69 : decode b_M_start 69 = .ok (.aload_n 0, 1) := by decide +kernel
theorem d_M_start_70 : decode b_M_start 70 = .ok (.getfield 9, 3) := by decide +kernel
theorem d_M_start_73 : decode b_M_start 73 = .ok (.bipush 20, 2) := by decide +kernel
theorem d_M_start_75 : decode b_M_start 75 = .ok (.iload 4, 2) := by decide +kernel
theorem d_M_start_77 : decode b_M_start 77 = .ok (.iastore, 1) := by decide +kernel
theorem d_M_start_78 : decode b_M_start 78 = .ok (.aload_n 0, 1) := by decide +kernel
theorem d_M_start_79 : decode b_M_start 79 = .ok (.getfield 9, 3) := by decide +kernel
theorem d_M_start_82 : decode b_M_start 82 = .ok (.bipush 21, 2) := by decide +kernel
theorem d_M_start_84 : decode b_M_start 84 = .ok (.iload 5, 2) := by decide +kernel
theorem d_M_start_86 : decode b_M_start 86 = .ok (.iastore, 1) := by decide +kernel
theorem d_M_start_87 : decode b_M_start 87 = .ok (.iload 6, 2) := by decide +kernel
theorem d_M_start_89 : decode b_M_start 89 = .ok (.ifCond .le 13, 3) := by decide +kernel
theorem d_M_start_92 : decode b_M_start 92 = .ok (.aload_n 0, 1) := by decide +kernel
theorem d_M_start_93 : decode b_M_start 93 = .ok (.dup, 1) := by decide +kernel
theorem d_M_start_94 : decode b_M_start 94 = .ok (.getfield 48, 3) := by decide +kernel
theorem d_M_start_97 : decode b_M_start 97 = .ok (.iconst 1, 1) := by decide +kernel
theorem d_M_start_98 : decode b_M_start 98 = .ok (.iadd, 1) := by decide +kernel
theorem d_M_start_99 : decode b_M_start 99 = .ok (.putfield 48, 3) := by decide +kernel
theorem d_M_start_102 : decode b_M_start 102 = .ok (.iload 6, 2) := by decide +kernel
theorem d_M_start_104 : decode b_M_start 104 = .ok (.ireturn, 1) := by decide +kernel
def f_M_start (g : Sg) (a1 : Int32) (a2 : Int32) (a3 : Int32) : Option (Int32 × Sg) := (qs_pb (f_Q_isBelow (a1) (6)) fun r1 => (if r1 = 0 then (some (0, g)) else (qs_in (20) 24 (qs_in (21) 24 (qs_in (20) 24 (qs_st (qs_a g 13 (20 : Int32).toNatClampNeg (a2 * 8)) fun u6 => (qs_in (21) 24 (qs_st (qs_a u6 13 (21 : Int32).toNatClampNeg (a3 * 8)) fun u8 => (qs_in (22) 24 (qs_st (qs_a u8 13 (22 : Int32).toNatClampNeg (u8 23 0)) fun u10 => (qs_bn (f_M_perform u10 (a1)) fun r11 u12 => (qs_in (20) 24 (qs_st (qs_a u12 13 (20 : Int32).toNatClampNeg (g 13 (20 : Int32).toNatClampNeg)) fun u14 => (qs_in (21) 24 (qs_st (qs_a u14 13 (21 : Int32).toNatClampNeg (g 13 (21 : Int32).toNatClampNeg)) fun u16 => (if r11 ≤ 0 then (some (r11, u16)) else (qs_st (qs_i u16 26 ((u16 26 0) + 1)) fun u18 => (some (r11, u18)))))))))))))))))))
set_option maxHeartbeats 4000000 in
set_option maxRecDepth 100000 in
theorem c_M_start (l : Launch) (dC : Nat → ClassId) (dI : Nat → Nat → Nat) (h : Nat → Nat) (c : Nat → ClassId) (sz : Nat) (g : Sg) (a1 : Int32) (a2 : Int32) (a3 : Int32) (r0 : Int32) (u0 : Sg) (hF : f_M_start g a1 a2 a3 = some (r0, u0)) : Met l y_M_start (qs_ws y_M_start b_M_start 7 (some .int)) ({ frames := 4, cells := 0, slots := 0, locals := 95 } : Room) (va_Pc ([.ref (h 4), .int a1, .int a2, .int a3] : List Value) (fun U => U.heap.size = sz ∧ va_P (dC, dI) vwCl (qs_W h c g) U.heap ∧ va_K (dC, dI) vwCl (qs_T c) U ∧ va_D (fun _ => True) (qs_W h c g) ∧ qs_N U)) (va_Qi (fun (r : Int32) (u : Sg) => r = r0 ∧ u = u0) (qs_at dC dI h c (va_A (qs_W h c g) sz)) (va_A (qs_W h c g) sz)) 0 0 (va_A (qs_W h c g) sz) := by
  refine Met.ofW (cc := b_M_start) (maxL := 7) (ret := (some .int)) (by decide +kernel) rfl ?_
  intro p e s m args below meth cd s₁ B hml hv
  obtain ⟨rfl, hsz, hP, hK, hD0, hNs⟩ := hv
  have hx := B.exec
  have hb := B.bytes
  have hr := B.returns
  have hts := atoms_spec (ws := (qs_ws y_M_start b_M_start 7 (some .int))) B.pre
  have hg : ∀ w ∈ qs_gt, w.before _ s = true := fun w h => hts w (List.mem_cons_of_mem _ h)
  have hown : s.vm.findClass R_M = some m.cls := findClass_of_methodNamed B.named
  have hlocks := B.notSynchronized
  subst hsz
  have hD := hD0.self (sz := s.heap.size)
  generalize hAe : va_A (qs_W h c g) s.heap.size = A at hD ⊢
  have hA : ∀ q : Nat, s.heap.size ≤ q → A q := fun q h => by rw [← hAe]; exact Or.inr h
  have hS : va_S A s.heap s.heap [] := va_S.rf
  have hl := lv_entry ([.ref (h 4), .int a1, .int a2, .int a3] : List Value) (n := 7) (Nat.le_of_ble_eq_true rfl)
  rw [lg_entry_eq]
  generalize (lg_sl ([.ref (h 4), .int a1, .int a2, .int a3] : List Value) ++ List.replicate (7 - (lg_sl ([.ref (h 4), .int a1, .int a2, .int a3] : List Value)).length) Slot.unset).toArray = ls at hl ⊢
  have hl : lv_has ls 7 [(0, .ref (h 4)), (1, .int (a1)), (2, .int (a2)), (3, .int (a3))] := hl
  unfold f_M_start at hF
  obtain ⟨H, hHe⟩ : ∃ H, H = s.heap := ⟨_, rfl⟩
  obtain ⟨locs, hLe⟩ : ∃ L : List Loc, L = [] := ⟨_, rfl⟩
  rw [← hHe] at hP ⊢
  rw [← hLe]
  have hS : va_S A s.heap H locs := by rw [hHe, hLe]; exact hS
  refine lv_iload_n hx hb d_M_start_0 rfl (lv_at hl 1 rfl) ?_
  refine lv_bipush (v := 6) hx hb d_M_start_1 (by decide) ?_
  obtain ⟨r1, hX, hF⟩ := qs_pb_some hF
  refine qs_psi (va_runSN (own := "QuakeServer$Machine") (As := [.int (a1), .int (6)]) (rest := []) ⟨hx, hb, hml, hown, hg⟩ (c_Q_isBelow l H.size (a1) (6) r1 hX) ⟨va_cnB (own := "QuakeServer$Machine") (index := 40) (host := "QuakeServer") 2 hg (qs_gc t_313) rfl rfl rfl (nM_4 hNs) (hg _ t_1) (by decide +kernel) ⟨Nat.le_of_ble_eq_true rfl, Nat.le_of_ble_eq_true rfl⟩, hg _ t_312, trivial⟩ ⟨qs_blind0, fun U hU hW => ⟨rfl, by rw [hU], hNs.warm hW⟩⟩ rfl rfl hl.1 rfl (lv_room (Nat.le_of_ble_eq_true rfl)) d_M_start_3 ⟨Nat.le_of_ble_eq_true rfl, Nat.le_of_ble_eq_true rfl⟩) hP hD hS hA (fun H locs hP hS => ?_)
  refine lv_if_ne (tgt := 11) hx hb d_M_start_6 (by decide) (fun c2 => ?_) (fun c2 => ?_)
  · have hF := qs_neg c2 hF
    refine lv_aload_n hx hb d_M_start_11 rfl (lv_at hl 0 rfl) ?_
    refine va_get (D := (dC, dI)) (ci := 3) (v := .ref (h 13)) (C := R_M) (T := T_M) (N := 11) hx hb hg in_M hown hK hP 4 rfl rfl 2 (by decide) (hg _ t_79) (fun _ h9 => h9) rfl d_M_start_12 ?_
    refine lv_bipush (v := 20) hx hb d_M_start_15 (by decide) ?_
    obtain ⟨c3, hF⟩ := qs_in_some hF
    refine va_iald hx hb hK hP 13 6 rfl rfl c3 d_M_start_17 ?_
    refine lv_istore (lv' := [(4, .int (g 13 (20 : Int32).toNatClampNeg)), (0, .ref (h 4)), (1, .int (a1)), (2, .int (a2)), (3, .int (a3))]) hx hb d_M_start_18 hl (by decide) rfl (fun ls hl => ?_)
    refine lv_aload_n hx hb d_M_start_20 rfl (lv_at hl 1 rfl) ?_
    refine va_get (D := (dC, dI)) (ci := 3) (v := .ref (h 13)) (C := R_M) (T := T_M) (N := 11) hx hb hg in_M hown hK hP 4 rfl rfl 2 (by decide) (hg _ t_79) (fun _ h9 => h9) rfl d_M_start_21 ?_
    refine lv_bipush (v := 21) hx hb d_M_start_24 (by decide) ?_
    obtain ⟨c4, hF⟩ := qs_in_some hF
    refine va_iald hx hb hK hP 13 6 rfl rfl c4 d_M_start_26 ?_
    refine lv_istore (lv' := [(5, .int (g 13 (21 : Int32).toNatClampNeg)), (4, .int (g 13 (20 : Int32).toNatClampNeg)), (0, .ref (h 4)), (1, .int (a1)), (2, .int (a2)), (3, .int (a3))]) hx hb d_M_start_27 hl (by decide) rfl (fun ls hl => ?_)
    refine lv_aload_n hx hb d_M_start_29 rfl (lv_at hl 2 rfl) ?_
    refine va_get (D := (dC, dI)) (ci := 3) (v := .ref (h 13)) (C := R_M) (T := T_M) (N := 11) hx hb hg in_M hown hK hP 4 rfl rfl 2 (by decide) (hg _ t_79) (fun _ h9 => h9) rfl d_M_start_30 ?_
    refine lv_bipush (v := 20) hx hb d_M_start_33 (by decide) ?_
    refine lv_iload_n hx hb d_M_start_35 rfl (lv_at hl 4 rfl) ?_
    refine lv_bipush (v := 8) hx hb d_M_start_36 (by decide) ?_
    refine lv_imul hx hb d_M_start_38 ?_
    obtain ⟨c5, hF⟩ := qs_in_some hF
    refine va_iast hx hb hK hP hD hS 13 6 rfl rfl c5 d_M_start_39 (fun H locs hP hD hS => ?_)
    obtain ⟨u6, hu6, hF⟩ := qs_st_some hF
    have hP : va_P (dC, dI) vwCl (qs_W h c u6) H := by rw [hu6]; exact hP
    have hD : va_D A (qs_W h c u6) := by rw [hu6]; exact hD
    clear hu6
    refine lv_aload_n hx hb d_M_start_40 rfl (lv_at hl 2 rfl) ?_
    refine va_get (D := (dC, dI)) (ci := 3) (v := .ref (h 13)) (C := R_M) (T := T_M) (N := 11) hx hb hg in_M hown hK hP 4 rfl rfl 2 (by decide) (hg _ t_79) (fun _ h9 => h9) rfl d_M_start_41 ?_
    refine lv_bipush (v := 21) hx hb d_M_start_44 (by decide) ?_
    refine lv_iload_n hx hb d_M_start_46 rfl (lv_at hl 5 rfl) ?_
    refine lv_bipush (v := 8) hx hb d_M_start_47 (by decide) ?_
    refine lv_imul hx hb d_M_start_49 ?_
    obtain ⟨c7, hF⟩ := qs_in_some hF
    refine va_iast hx hb hK hP hD hS 13 6 rfl rfl c7 d_M_start_50 (fun H locs hP hD hS => ?_)
    obtain ⟨u8, hu8, hF⟩ := qs_st_some hF
    have hP : va_P (dC, dI) vwCl (qs_W h c u8) H := by rw [hu8]; exact hP
    have hD : va_D A (qs_W h c u8) := by rw [hu8]; exact hD
    clear hu8
    refine lv_aload_n hx hb d_M_start_51 rfl (lv_at hl 2 rfl) ?_
    refine va_get (D := (dC, dI)) (ci := 3) (v := .ref (h 13)) (C := R_M) (T := T_M) (N := 11) hx hb hg in_M hown hK hP 4 rfl rfl 2 (by decide) (hg _ t_79) (fun _ h9 => h9) rfl d_M_start_52 ?_
    refine lv_bipush (v := 22) hx hb d_M_start_55 (by decide) ?_
    refine lv_aload_n hx hb d_M_start_57 rfl (lv_at hl 2 rfl) ?_
    refine va_get (D := (dC, dI)) (ci := 3) (v := .int (u8 23 0)) (C := R_M) (T := T_M) (N := 11) hx hb hg in_M hown hK hP 4 rfl rfl 7 (by decide) (hg _ t_85) (fun _ h9 => h9) rfl d_M_start_58 ?_
    obtain ⟨c9, hF⟩ := qs_in_some hF
    refine va_iast hx hb hK hP hD hS 13 6 rfl rfl c9 d_M_start_61 (fun H locs hP hD hS => ?_)
    obtain ⟨u10, hu10, hF⟩ := qs_st_some hF
    have hP : va_P (dC, dI) vwCl (qs_W h c u10) H := by rw [hu10]; exact hP
    have hD : va_D A (qs_W h c u10) := by rw [hu10]; exact hD
    clear hu10
    refine lv_aload_n hx hb d_M_start_62 rfl (lv_at hl 2 rfl) ?_
    refine lv_iload_n hx hb d_M_start_63 rfl (lv_at hl 3 rfl) ?_
    obtain ⟨r11, u12, hX, hF⟩ := qs_bn_some hF
    refine qs_ci (Wd := qs_W h c) (isC := [0, 1, 2, 3, 4, 5, 6, 7, 8, 9, 10, 11, 12, 13, 14, 15, 16]) (va_runV (own := "QuakeServer$Machine") (C := "QuakeServer$Machine") (As := [.int (a1)]) (rest := []) ⟨hx, hb, hml, hown, hg⟩ (c_M_perform l dC dI h c H.size u10 (a1) r11 u12 hX) (cwV 1 hg (qs_gV t_442 t_444 tp_2 t_5 t_445) rfl rfl rfl (by decide +kernel) ⟨Nat.le_of_ble_eq_true rfl, Nat.le_of_ble_eq_true rfl⟩) ⟨qs_blind, va_recv hK hP (ci := 3) (q0 := 4) rfl rfl, fun U hU hW => ⟨rfl, by rw [hU], by rw [hU]; exact hP, va_K.moved hW.alike hK, hD.weaken (fun _ _ _ _ => trivial), hNs.warm hW⟩⟩ rfl rfl hl.1 rfl (lv_room (Nat.le_of_ble_eq_true rfl)) d_M_start_64 ⟨Nat.le_of_ble_eq_true rfl, Nat.le_of_ble_eq_true rfl⟩) rfl hP hD hS hA (fun H locs hP hD hS => ?_)
    refine lv_istore (lv' := [(6, .int (r11)), (5, .int (g 13 (21 : Int32).toNatClampNeg)), (4, .int (g 13 (20 : Int32).toNatClampNeg)), (0, .ref (h 4)), (1, .int (a1)), (2, .int (a2)), (3, .int (a3))]) hx hb d_M_start_67 hl (by decide) rfl (fun ls hl => ?_)
    refine lv_aload_n hx hb d_M_start_69 rfl (lv_at hl 3 rfl) ?_
    refine va_get (D := (dC, dI)) (ci := 3) (v := .ref (h 13)) (C := R_M) (T := T_M) (N := 11) hx hb hg in_M hown hK hP 4 rfl rfl 2 (by decide) (hg _ t_79) (fun _ h9 => h9) rfl d_M_start_70 ?_
    refine lv_bipush (v := 20) hx hb d_M_start_73 (by decide) ?_
    refine lv_iload hx hb d_M_start_75 (lv_at hl 2 rfl) ?_
    obtain ⟨c13, hF⟩ := qs_in_some hF
    refine va_iast hx hb hK hP hD hS 13 6 rfl rfl c13 d_M_start_77 (fun H locs hP hD hS => ?_)
    obtain ⟨u14, hu14, hF⟩ := qs_st_some hF
    have hP : va_P (dC, dI) vwCl (qs_W h c u14) H := by rw [hu14]; exact hP
    have hD : va_D A (qs_W h c u14) := by rw [hu14]; exact hD
    clear hu14
    refine lv_aload_n hx hb d_M_start_78 rfl (lv_at hl 3 rfl) ?_
    refine va_get (D := (dC, dI)) (ci := 3) (v := .ref (h 13)) (C := R_M) (T := T_M) (N := 11) hx hb hg in_M hown hK hP 4 rfl rfl 2 (by decide) (hg _ t_79) (fun _ h9 => h9) rfl d_M_start_79 ?_
    refine lv_bipush (v := 21) hx hb d_M_start_82 (by decide) ?_
    refine lv_iload hx hb d_M_start_84 (lv_at hl 1 rfl) ?_
    obtain ⟨c15, hF⟩ := qs_in_some hF
    refine va_iast hx hb hK hP hD hS 13 6 rfl rfl c15 d_M_start_86 (fun H locs hP hD hS => ?_)
    obtain ⟨u16, hu16, hF⟩ := qs_st_some hF
    have hP : va_P (dC, dI) vwCl (qs_W h c u16) H := by rw [hu16]; exact hP
    have hD : va_D A (qs_W h c u16) := by rw [hu16]; exact hD
    clear hu16
    refine lv_iload hx hb d_M_start_87 (lv_at hl 0 rfl) ?_
    refine lv_if_le (tgt := 102) hx hb d_M_start_89 (by decide) (fun c17 => ?_) (fun c17 => ?_)
    · have hF := qs_pos c17 hF
      refine lv_iload hx hb d_M_start_102 (lv_at hl 0 rfl) ?_
      obtain ⟨h8, h9⟩ := qs_ret hF
      exact W.iret (v := r11) hx hb hr (fun t ht hW => ⟨⟨r11, u16, rfl, ⟨h8, h9⟩, by rw [ht]; exact hP, va_K.moved hW.alike hK, hD⟩, hS.F ht⟩) hS.2.2 d_M_start_104
    · have hF := qs_neg c17 hF
      refine lv_aload_n hx hb d_M_start_92 rfl (lv_at hl 3 rfl) ?_
      refine lv_dup hx hb d_M_start_93 rfl ?_
      refine va_get (D := (dC, dI)) (ci := 3) (v := .int (u16 26 0)) (C := R_M) (T := T_M) (N := 11) hx hb hg in_M hown hK hP 4 rfl rfl 10 (by decide) (hg _ t_92) (fun _ h9 => h9) rfl d_M_start_94 ?_
      refine lv_iconst (v := 1) hx hb d_M_start_97 (by decide) ?_
      refine lv_iadd hx hb d_M_start_98 ?_
      refine va_put (D := (dC, dI)) (ci := 3) (v := .int ((u16 26 0) + 1)) (ty := .int) (C := R_M) (T := T_M) (N := 11) hx hb hg in_M ty_M ty_M_ok nm_M hown hK hP hD hS 4 rfl rfl 10 (by decide) (hg _ t_92) (fun _ h9 => h9) rfl (by decide +kernel) rfl rfl (Nat.le_of_ble_eq_true rfl) d_M_start_99 (fun H locs hP hD hS => ?_)
      obtain ⟨u18, hu18, hF⟩ := qs_st_some hF
      have hP : va_P (dC, dI) vwCl (qs_W h c u18) H := by rw [hu18]; exact hP
      have hD : va_D A (qs_W h c u18) := by rw [hu18]; exact hD
      clear hu18
      refine lv_iload hx hb d_M_start_102 (lv_at hl 0 rfl) ?_
      obtain ⟨h8, h9⟩ := qs_ret hF
      exact W.iret (v := r11) hx hb hr (fun t ht hW => ⟨⟨r11, u18, rfl, ⟨h8, h9⟩, by rw [ht]; exact hP, va_K.moved hW.alike hK, hD⟩, hS.F ht⟩) hS.2.2 d_M_start_104
  · have hF := qs_pos c2 hF
    refine lv_iconst (v := 0) hx hb d_M_start_9 (by decide) ?_
    obtain ⟨h8, h9⟩ := qs_ret hF
    exact W.iret (v := 0) hx hb hr (fun t ht hW => ⟨⟨0, g, rfl, ⟨h8, h9⟩, by rw [ht]; exact hP, va_K.moved hW.alike hK, hD⟩, hS.F ht⟩) hS.2.2 d_M_start_10
end
section
theorem d_V_meet_0 : decode b_V_meet 0 = .ok (.iload_n 2, 1) := by decide +kernel
theorem d_V_meet_1 : decode b_V_meet 1 = .ok (.ifCond .lt 21, 3) := by decide +kernel
theorem d_V_meet_4 : decode b_V_meet 4 = .ok (.iload_n 2, 1) := by decide +kernel
theorem d_V_meet_5 : decode b_V_meet 5 = .ok (.aload_n 0, 1) := by decide +kernel
theorem d_V_meet_6 : decode b_V_meet 6 = .ok (.getfield 77, 3) := by decide +kernel
theorem d_V_meet_9 : decode b_V_meet 9 = .ok (.if_icmp .ge 13, 3) := by decide +kernel
theorem d_V_meet_12 : decode b_V_meet 12 = .ok (.aload_n 0, 1) := by decide +kernel
theorem d_V_meet_13 : decode b_V_meet 13 = .ok (.iload_n 2, 1) := by decide +kernel
theorem d_V_meet_14 : decode b_V_meet 14 = .ok (.putfield 77, 3) := by decide +kernel
theorem d_V_meet_17 : decode b_V_meet 17 = .ok (.aload_n 0, 1) := by decide +kernel
theorem d_V_meet_18 : decode b_V_meet 18 = .ok (.iload_n 1, 1) := by decide +kernel
theorem d_V_meet_19 : decode b_V_meet 19 = .ok (.putfield 80, 3) := by decide +kernel
theorem d_V_meet_22 : decode b_V_meet 22 = .ok (.return_, 1) := by decide +kernel
def f_V_meet (g : Sg) (a1 : Int32) (a2 : Int32) : Option (Unit × Sg) := (if a2 < 0 then (some ((), g)) else (if (g 28 0) ≤ a2 then (some ((), g)) else (qs_st (qs_i g 28 (a2)) fun u3 => (qs_st (qs_i u3 29 (a1)) fun u4 => (some ((), u4))))))
set_option maxHeartbeats 4000000 in
set_option maxRecDepth 100000 in
theorem c_V_meet (l : Launch) (dC : Nat → ClassId) (dI : Nat → Nat → Nat) (h : Nat → Nat) (c : Nat → ClassId) (sz : Nat) (g : Sg) (a1 : Int32) (a2 : Int32) (u0 : Sg) (hF : f_V_meet g a1 a2 = some ((), u0)) : Met l y_V_meet (qs_ws y_V_meet b_V_meet 3 none) ({ frames := 0, cells := 0, slots := 0, locals := 0 } : Room) (va_Pc ([.ref (h 5), .int a1, .int a2] : List Value) (fun U => U.heap.size = sz ∧ va_P (dC, dI) vwCl (qs_W h c g) U.heap ∧ va_K (dC, dI) vwCl (qs_T c) U ∧ va_D (fun _ => True) (qs_W h c g) ∧ qs_N U)) (va_Qv (fun (u : Sg) => u = u0) (qs_at dC dI h c (va_A (qs_W h c g) sz)) (va_A (qs_W h c g) sz)) 0 0 (va_A (qs_W h c g) sz) := by
  refine Met.ofW (cc := b_V_meet) (maxL := 3) (ret := none) (by decide +kernel) rfl ?_
  intro p e s m args below meth cd s₁ B hml hv
  obtain ⟨rfl, hsz, hP, hK, hD0, hNs⟩ := hv
  have hx := B.exec
  have hb := B.bytes
  have hr := B.returns
  have hts := atoms_spec (ws := (qs_ws y_V_meet b_V_meet 3 none)) B.pre
  have hg : ∀ w ∈ qs_gt, w.before _ s = true := fun w h => hts w (List.mem_cons_of_mem _ h)
  have hown : s.vm.findClass R_V = some m.cls := findClass_of_methodNamed B.named
  have hlocks := B.notSynchronized
  subst hsz
  have hD := hD0.self (sz := s.heap.size)
  generalize hAe : va_A (qs_W h c g) s.heap.size = A at hD ⊢
  have hA : ∀ q : Nat, s.heap.size ≤ q → A q := fun q h => by rw [← hAe]; exact Or.inr h
  have hS : va_S A s.heap s.heap [] := va_S.rf
  have hl := lv_entry ([.ref (h 5), .int a1, .int a2] : List Value) (n := 3) (Nat.le_of_ble_eq_true rfl)
  rw [lg_entry_eq]
  generalize (lg_sl ([.ref (h 5), .int a1, .int a2] : List Value) ++ List.replicate (3 - (lg_sl ([.ref (h 5), .int a1, .int a2] : List Value)).length) Slot.unset).toArray = ls at hl ⊢
  have hl : lv_has ls 3 [(0, .ref (h 5)), (1, .int (a1)), (2, .int (a2))] := hl
  unfold f_V_meet at hF
  obtain ⟨H, hHe⟩ : ∃ H, H = s.heap := ⟨_, rfl⟩
  obtain ⟨locs, hLe⟩ : ∃ L : List Loc, L = [] := ⟨_, rfl⟩
  rw [← hHe] at hP ⊢
  rw [← hLe]
  have hS : va_S A s.heap H locs := by rw [hHe, hLe]; exact hS
  refine lv_iload_n hx hb d_V_meet_0 rfl (lv_at hl 2 rfl) ?_
  refine lv_if_lt (tgt := 22) hx hb d_V_meet_1 (by decide) (fun c1 => ?_) (fun c1 => ?_)
  · have hF := qs_pos c1 hF
    obtain ⟨h8, h9⟩ := qs_ret hF
    exact W.vret hx hb hr (fun t ht hW => ⟨⟨g, rfl, h9, by rw [ht]; exact hP, va_K.moved hW.alike hK, hD⟩, hS.F ht⟩) hS.2.2 d_V_meet_22
  · have hF := qs_neg c1 hF
    refine lv_iload_n hx hb d_V_meet_4 rfl (lv_at hl 2 rfl) ?_
    refine lv_aload_n hx hb d_V_meet_5 rfl (lv_at hl 0 rfl) ?_
    refine va_get (D := (dC, dI)) (ci := 4) (v := .int (g 28 0)) (C := R_V) (T := T_V) (N := 6) hx hb hg in_V hown hK hP 5 rfl rfl 4 (by decide) (hg _ t_128) (fun _ h9 => h9) rfl d_V_meet_6 ?_
    refine lv_icmp_ge (tgt := 22) hx hb d_V_meet_9 (by decide) (fun c2 => ?_) (fun c2 => ?_)
    · have hF := qs_pos c2 hF
      obtain ⟨h8, h9⟩ := qs_ret hF
      exact W.vret hx hb hr (fun t ht hW => ⟨⟨g, rfl, h9, by rw [ht]; exact hP, va_K.moved hW.alike hK, hD⟩, hS.F ht⟩) hS.2.2 d_V_meet_22
    · have hF := qs_neg c2 hF
      refine lv_aload_n hx hb d_V_meet_12 rfl (lv_at hl 0 rfl) ?_
      refine lv_iload_n hx hb d_V_meet_13 rfl (lv_at hl 2 rfl) ?_
      refine va_put (D := (dC, dI)) (ci := 4) (v := .int (a2)) (ty := .int) (C := R_V) (T := T_V) (N := 6) hx hb hg in_V ty_V ty_V_ok nm_V hown hK hP hD hS 5 rfl rfl 4 (by decide) (hg _ t_128) (fun _ h9 => h9) rfl (by decide +kernel) rfl rfl (Nat.le_of_ble_eq_true rfl) d_V_meet_14 (fun H locs hP hD hS => ?_)
      obtain ⟨u3, hu3, hF⟩ := qs_st_some hF
      have hP : va_P (dC, dI) vwCl (qs_W h c u3) H := by rw [hu3]; exact hP
      have hD : va_D A (qs_W h c u3) := by rw [hu3]; exact hD
      clear hu3
      refine lv_aload_n hx hb d_V_meet_17 rfl (lv_at hl 0 rfl) ?_
      refine lv_iload_n hx hb d_V_meet_18 rfl (lv_at hl 1 rfl) ?_
      refine va_put (D := (dC, dI)) (ci := 4) (v := .int (a1)) (ty := .int) (C := R_V) (T := T_V) (N := 6) hx hb hg in_V ty_V ty_V_ok nm_V hown hK hP hD hS 5 rfl rfl 5 (by decide) (hg _ t_129) (fun _ h9 => h9) rfl (by decide +kernel) rfl rfl (Nat.le_of_ble_eq_true rfl) d_V_meet_19 (fun H locs hP hD hS => ?_)
      obtain ⟨u4, hu4, hF⟩ := qs_st_some hF
      have hP : va_P (dC, dI) vwCl (qs_W h c u4) H := by rw [hu4]; exact hP
      have hD : va_D A (qs_W h c u4) := by rw [hu4]; exact hD
      clear hu4
      obtain ⟨h8, h9⟩ := qs_ret hF
      exact W.vret hx hb hr (fun t ht hW => ⟨⟨u4, rfl, h9, by rw [ht]; exact hP, va_K.moved hW.alike hK, hD⟩, hS.F ht⟩) hS.2.2 d_V_meet_22

theorem d_V_meetWalls_0 : decode b_V_meetWalls 0 = .ok (.iconst 1, 1) := by decide +kernel
theorem d_V_meetWalls_1 : decode b_V_meetWalls 1 = .ok (.iload_n 2, 1) := by decide +kernel
theorem d_V_meetWalls_2 : decode b_V_meetWalls 2 = .ok (.isub, 1) := by decide +kernel
theorem d_V_meetWalls_3 : decode b_V_meetWalls 3 = .ok (.istore 4, 2) := by decide +kernel
theorem d_V_meetWalls_5 : decode b_V_meetWalls 5 = .ok (.aload_n 0, 1) := by decide +kernel
theorem d_V_meetWalls_6 : decode b_V_meetWalls 6 = .ok (.getfield 9, 3) := by decide +kernel
theorem d_V_meetWalls_9 : decode b_V_meetWalls 9 = .ok (.iload_n 1, 1) := by decide +kernel
theorem d_V_meetWalls_10 : decode b_V_meetWalls 10 = .ok (.iload 4, 2) := by decide +kernel
theorem d_V_meetWalls_12 : decode b_V_meetWalls 12 = .ok (.invokevirtual 90, 3) := by decide +kernel
theorem d_V_meetWalls_15 : decode b_V_meetWalls 15 = .ok (.istore 5, 2) := by decide +kernel
theorem d_V_meetWalls_17 : decode b_V_meetWalls 17 = .ok (.aload_n 0, 1) := by decide +kernel
theorem d_V_meetWalls_18 : decode b_V_meetWalls 18 = .ok (.getfield 9, 3) := by decide +kernel
theorem d_V_meetWalls_21 : decode b_V_meetWalls 21 = .ok (.iload_n 1, 1) := by decide +kernel
theorem d_V_meetWalls_22 : decode b_V_meetWalls 22 = .ok (.iload 4, 2) := by decide +kernel
theorem d_V_meetWalls_24 : decode b_V_meetWalls 24 = .ok (.invokevirtual 93, 3) := by decide +kernel
theorem d_V_meetWalls_27 : decode b_V_meetWalls 27 = .ok (.istore 6, 2) := by decide +kernel
theorem d_V_meetWalls_29 : decode b_V_meetWalls 29 = .ok (.iconst 0, 1) := by decide +kernel
theorem d_V_meetWalls_30 : decode b_V_meetWalls 30 = .ok (.istore 7, 2) := by decide +kernel
theorem d_V_meetWalls_32 : decode b_V_meetWalls 32 = .ok (.iload 7, 2) := by decide +kernel
theorem d_V_meetWalls_34 : decode b_V_meetWalls 34 = .ok (.aload_n 0, 1) := by decide +kernel
theorem d_V_meetWalls_35 : decode b_V_meetWalls 35 = .ok (.getfield 15, 3) := by decide +kernel
theorem d_V_meetWalls_38 : decode b_V_meetWalls 38 = .ok (.getfield 96, 3) := by decide +kernel
theorem d_V_meetWalls_41 : decode b_V_meetWalls 41 = .ok (.if_icmp .ge 97, 3) := by decide +kernel
theorem d_V_meetWalls_44 : decode b_V_meetWalls 44 = .ok (.iload 5, 2) := by decide +kernel
theorem d_V_meetWalls_46 : decode b_V_meetWalls 46 = .ok (.aload_n 0, 1) := by decide +kernel
theorem d_V_meetWalls_47 : decode b_V_meetWalls 47 = .ok (.getfield 15, 3) := by decide +kernel
theorem d_V_meetWalls_50 : decode b_V_meetWalls 50 = .ok (.iload 7, 2) := by decide +kernel
theorem d_V_meetWalls_52 : decode b_V_meetWalls 52 = .ok (.iload 4, 2) := by decide +kernel
theorem d_V_meetWalls_54 : decode b_V_meetWalls 54 = .ok (.invokevirtual 101, 3) := by decide +kernel
theorem d_V_meetWalls_57 : decode b_V_meetWalls 57 = .ok (.if_icmp .ge 75, 3) := by decide +kernel
theorem d_V_meetWalls_60 : decode b_V_meetWalls 60 = .ok (.aload_n 0, 1) := by decide +kernel
theorem d_V_meetWalls_61 : decode b_V_meetWalls 61 = .ok (.getfield 15, 3) := by decide +kernel
theorem d_V_meetWalls_64 : decode b_V_meetWalls 64 = .ok (.iload 7, 2) := by decide +kernel
theorem d_V_meetWalls_66 : decode b_V_meetWalls 66 = .ok (.iload 4, 2) := by decide +kernel
theorem d_V_meetWalls_68 : decode b_V_meetWalls 68 = .ok (.invokevirtual 102, 3) := by decide +kernel
theorem d_V_meetWalls_71 : decode b_V_meetWalls 71 = .ok (.iload 6, 2) := by decide +kernel
theorem d_V_meetWalls_73 : decode b_V_meetWalls 73 = .ok (.if_icmp .ge 59, 3) := by decide +kernel
theorem d_V_meetWalls_76 : decode b_V_meetWalls 76 = .ok (.iload_n 3, 1) := by decide +kernel
theorem d_V_meetWalls_77 : decode b_V_meetWalls 77 = .ok (.ifCond .eq 26, 3) := by decide +kernel
theorem d_V_meetWalls_80 : decode b_V_meetWalls 80 = .ok (.aload_n 0, 1) := by decide +kernel
theorem d_V_meetWalls_81 : decode b_V_meetWalls 81 = .ok (.getfield 15, 3) := by decide +kernel
theorem d_V_meetWalls_84 : decode b_V_meetWalls 84 = .ok (.iload 7, 2) := by decide +kernel
theorem d_V_meetWalls_86 : decode b_V_meetWalls 86 = .ok (.iload_n 2, 1) := by decide +kernel
theorem d_V_meetWalls_87 : decode b_V_meetWalls 87 = .ok (.invokevirtual 102, 3) := by decide +kernel
theorem d_V_meetWalls_90 : decode b_V_meetWalls 90 = .ok (.aload_n 0, 1) := by decide +kernel
theorem d_V_meetWalls_91 : decode b_V_meetWalls 91 = .ok (.getfield 9, 3) := by decide +kernel
theorem d_V_meetWalls_94 : decode b_V_meetWalls 94 = .ok (.iload_n 1, 1) := by decide +kernel
theorem d_V_meetWalls_95 : decode b_V_meetWalls 95 = .ok (.iload_n 2, 1) := by decide +kernel
theorem d_V_meetWalls_96 : decode b_V_meetWalls 96 = .ok (.invokevirtual 93, 3) := by decide +kernel
theorem d_V_meetWalls_99 : decode b_V_meetWalls 99 = .ok (.isub, 1) := by decide +kernel
theorem d_V_meetWalls_100 : decode b_V_meetWalls 100 = .ok (.goto 23, 3) := by decide +kernel
theorem d_V_meetWalls_103 : decode b_V_meetWalls 103 = .ok (.aload_n 0, 1) := by decide +kernel
theorem d_V_meetWalls_104 : decode b_V_meetWalls 104 = .ok (.getfield 9, 3) := by decide +kernel
theorem d_V_meetWalls_107 : decode b_V_meetWalls 107 = .ok (.iload_n 1, 1) := by decide +kernel
theorem d_V_meetWalls_108 : decode b_V_meetWalls 108 = .ok (.iload_n 2, 1) := by decide +kernel
theorem d_V_meetWalls_109 : decode b_V_meetWalls 109 = .ok (.invokevirtual 90, 3) := by decide +kernel
theorem d_V_meetWalls_112 : decode b_V_meetWalls 112 = .ok (.aload_n 0, 1) := by decide +kernel
theorem d_V_meetWalls_113 : decode b_V_meetWalls 113 = .ok (.getfield 15, 3) := by decide +kernel
theorem d_V_meetWalls_116 : decode b_V_meetWalls 116 = .ok (.iload 7, 2) := by decide +kernel
theorem d_V_meetWalls_118 : decode b_V_meetWalls 118 = .ok (.iload_n 2, 1) := by decide +kernel
theorem d_V_meetWalls_119 : decode b_V_meetWalls 119 = .ok (.invokevirtual 101, 3) := by decide +kernel
theorem d_V_meetWalls_122 : decode b_V_meetWalls 122 = .ok (.isub, 1) := by decide +kernel
theorem d_V_meetWalls_123 : decode b_V_meetWalls 123 = .ok (.istore 8, 2) := by decide +kernel
theorem d_V_meetWalls_125 : decode b_V_meetWalls 125 = .ok (.aload_n 0, 1) := by decide +kernel
theorem d_V_meetWalls_126 : decode b_V_meetWalls 126 = .ok (.iconst (-1), 1) := by decide +kernel
theorem d_V_meetWalls_127 : decode b_V_meetWalls 127 = .ok (.iload 8, 2) := by decide +kernel
theorem d_V_meetWalls_129 : decode b_V_meetWalls 129 = .ok (.invokevirtual 103, 3) := by decide +kernel
theorem d_V_meetWalls_132 : decode b_V_meetWalls 132 = .ok (.iinc 7 1, 3) := by decide +kernel
theorem d_V_meetWalls_135 : decode b_V_meetWalls 135 = .ok (.goto (-103), 3) := by decide +kernel
theorem d_V_meetWalls_138 : decode b_V_meetWalls 138 = .ok (.return_, 1) := by decide +kernel
def f_V_meetWalls_132 (k32 : Sg → Int32 → Int32 → Int32 → Int32 → Int32 → Int32 → Int32 → Option (Unit × Sg)) (g : Sg) (x1 : Int32) (x2 : Int32) (x3 : Int32) (x4 : Int32) (x5 : Int32) (x6 : Int32) (x7 : Int32) : Option (Unit × Sg) := (k32 g (x1) (x2) (x3) (x4) (x5) (x6) (x7 + 1))
def f_V_meetWalls_123 (k32 : Sg → Int32 → Int32 → Int32 → Int32 → Int32 → Int32 → Int32 → Option (Unit × Sg)) (g : Sg) (x1 : Int32) (x2 : Int32) (x3 : Int32) (x4 : Int32) (x5 : Int32) (x6 : Int32) (x7 : Int32) (y0 : Int32) : Option (Unit × Sg) := (qs_bn (f_V_meet g ((-1)) (y0)) fun _ u22 => (f_V_meetWalls_132 k32 u22 (x1) (x2) (x3) (x4) (x5) (x6) (x7)))
def f_V_meetWalls_32  : Nat → Sg → Int32 → Int32 → Int32 → Int32 → Int32 → Int32 → Int32 → Option (Unit × Sg)
  | 0, _, _, _, _, _, _, _, _ => none
  | n + 1, g, x1, x2, x3, x4, x5, x6, x7 => (if (g 20 0) ≤ x7 then (some ((), g)) else (qs_bn (f_W_high g (x7) (x4)) fun r6 u7 => (if r6 ≤ x5 then (f_V_meetWalls_132 (fun g x1 x2 x3 x4 x5 x6 x7 => f_V_meetWalls_32  n g x1 x2 x3 x4 x5 x6 x7) u7 (x1) (x2) (x3) (x4) (x5) (x6) (x7)) else (qs_bn (f_W_low u7 (x7) (x4)) fun r9 u10 => (if x6 ≤ r9 then (f_V_meetWalls_132 (fun g x1 x2 x3 x4 x5 x6 x7 => f_V_meetWalls_32  n g x1 x2 x3 x4 x5 x6 x7) u10 (x1) (x2) (x3) (x4) (x5) (x6) (x7)) else (if x3 = 0 then (qs_bn (f_E_low u10 (x1) (x2)) fun r13 u14 => (qs_bn (f_W_high u14 (x7) (x2)) fun r15 u16 => (f_V_meetWalls_123 (fun g x1 x2 x3 x4 x5 x6 x7 => f_V_meetWalls_32  n g x1 x2 x3 x4 x5 x6 x7) u16 (x1) (x2) (x3) (x4) (x5) (x6) (x7) (r13 - r15)))) else (qs_bn (f_W_low u10 (x7) (x2)) fun r17 u18 => (qs_bn (f_E_high u18 (x1) (x2)) fun r19 u20 => (f_V_meetWalls_123 (fun g x1 x2 x3 x4 x5 x6 x7 => f_V_meetWalls_32  n g x1 x2 x3 x4 x5 x6 x7) u20 (x1) (x2) (x3) (x4) (x5) (x6) (x7) (r17 - r19))))))))))
def f_V_meetWalls (g : Sg) (a1 : Int32) (a2 : Int32) (a3 : Int32) : Option (Unit × Sg) := (qs_bn (f_E_low g (a1) (1 - a2)) fun r1 u2 => (qs_bn (f_E_high u2 (a1) (1 - a2)) fun r3 u4 => (f_V_meetWalls_32 200 u4 (a1) (a2) (a3) (1 - a2) (r1) (r3) (0))))
set_option maxHeartbeats 4000000 in
set_option maxRecDepth 100000 in
theorem c_V_meetWalls (l : Launch) (dC : Nat → ClassId) (dI : Nat → Nat → Nat) (h : Nat → Nat) (c : Nat → ClassId) (sz : Nat) (g : Sg) (a1 : Int32) (a2 : Int32) (a3 : Int32) (u0 : Sg) (hF : f_V_meetWalls g a1 a2 a3 = some ((), u0)) : Met l y_V_meetWalls (qs_ws y_V_meetWalls b_V_meetWalls 9 none) ({ frames := 3, cells := 0, slots := 0, locals := 66 } : Room) (va_Pc ([.ref (h 5), .int a1, .int a2, .int a3] : List Value) (fun U => U.heap.size = sz ∧ va_P (dC, dI) vwCl (qs_W h c g) U.heap ∧ va_K (dC, dI) vwCl (qs_T c) U ∧ va_D (fun _ => True) (qs_W h c g) ∧ qs_N U)) (va_Qv (fun (u : Sg) => u = u0) (qs_at dC dI h c (va_A (qs_W h c g) sz)) (va_A (qs_W h c g) sz)) 0 0 (va_A (qs_W h c g) sz) := by
  refine Met.ofW (cc := b_V_meetWalls) (maxL := 9) (ret := none) (by decide +kernel) rfl ?_
  intro p e s m args below meth cd s₁ B hml hv
  obtain ⟨rfl, hsz, hP, hK, hD0, hNs⟩ := hv
  have hx := B.exec
  have hb := B.bytes
  have hr := B.returns
  have hts := atoms_spec (ws := (qs_ws y_V_meetWalls b_V_meetWalls 9 none)) B.pre
  have hg : ∀ w ∈ qs_gt, w.before _ s = true := fun w h => hts w (List.mem_cons_of_mem _ h)
  have hown : s.vm.findClass R_V = some m.cls := findClass_of_methodNamed B.named
  have hlocks := B.notSynchronized
  subst hsz
  have hD := hD0.self (sz := s.heap.size)
  generalize hAe : va_A (qs_W h c g) s.heap.size = A at hD ⊢
  have hA : ∀ q : Nat, s.heap.size ≤ q → A q := fun q h => by rw [← hAe]; exact Or.inr h
  have hS : va_S A s.heap s.heap [] := va_S.rf
  have kb_132 : ∀ (k32 : Sg → Int32 → Int32 → Int32 → Int32 → Int32 → Int32 → Int32 → Option (Unit × Sg)), (∀ (g : Sg) (x1 : Int32) (x2 : Int32) (x3 : Int32) (x4 : Int32) (x5 : Int32) (x6 : Int32) (x7 : Int32) (H : Heap) (locs : List Loc) (ls : Array Slot), va_P (dC, dI) vwCl (qs_W h c g) H → va_D A (qs_W h c g) → va_S A s.heap H locs → lv_has ls 9 [(0, .ref (h 5)), (1, .int (x1)), (2, .int (x2)), (3, .int (x3)), (4, .int (x4)), (5, .int (x5)), (6, .int (x6)), (7, .int (x7))] → k32 g x1 x2 x3 x4 x5 x6 x7 = some ((), u0) → W p l e (headSpec (qs_ws y_V_meetWalls b_V_meetWalls 9 none) ({ frames := 3, cells := 0, slots := 0, locals := 66 } : Room)).room s m ([.ref (h 5), .int a1, .int a2, .int a3] : List Value).toArray below meth cd H locs 0 0 (MQ below (va_Qv (fun (u : Sg) => u = u0) (qs_at dC dI h c A) A) ([.ref (h 5), .int a1, .int a2, .int a3] : List Value).toArray s 0 0 A) (F0 m 32 ls [])) → ∀ (g : Sg) (x1 : Int32) (x2 : Int32) (x3 : Int32) (x4 : Int32) (x5 : Int32) (x6 : Int32) (x7 : Int32) (H : Heap) (locs : List Loc) (ls : Array Slot), va_P (dC, dI) vwCl (qs_W h c g) H → va_D A (qs_W h c g) → va_S A s.heap H locs → lv_has ls 9 [(0, .ref (h 5)), (1, .int (x1)), (2, .int (x2)), (3, .int (x3)), (4, .int (x4)), (5, .int (x5)), (6, .int (x6)), (7, .int (x7))] → f_V_meetWalls_132 k32  g x1 x2 x3 x4 x5 x6 x7 = some ((), u0) → W p l e (headSpec (qs_ws y_V_meetWalls b_V_meetWalls 9 none) ({ frames := 3, cells := 0, slots := 0, locals := 66 } : Room)).room s m ([.ref (h 5), .int a1, .int a2, .int a3] : List Value).toArray below meth cd H locs 0 0 (MQ below (va_Qv (fun (u : Sg) => u = u0) (qs_at dC dI h c A) A) ([.ref (h 5), .int a1, .int a2, .int a3] : List Value).toArray s 0 0 A) (F0 m 132 ls []) := by
    intro k32 hk32
    intro g x1 x2 x3 x4 x5 x6 x7 H locs ls hP hD hS hl hF
    unfold f_V_meetWalls_132 at hF
    refine lv_iinc (v := x7 + 1) (lv' := [(7, .int (x7 + 1)), (0, .ref (h 5)), (1, .int (x1)), (2, .int (x2)), (3, .int (x3)), (4, .int (x4)), (5, .int (x5)), (6, .int (x6))]) hx hb d_V_meetWalls_132 hl (k := 7) rfl (by rfl) (by decide) rfl (fun ls hl => ?_)
    refine lv_goto (tgt := 32) hx hb d_V_meetWalls_135 (by decide) ?_
    exact hk32 g (x1) (x2) (x3) (x4) (x5) (x6) (x7 + 1) H locs ls hP hD hS (lv_sub hl [1, 2, 3, 4, 5, 6, 7, 0] rfl) hF
  have kb_123 : ∀ (k32 : Sg → Int32 → Int32 → Int32 → Int32 → Int32 → Int32 → Int32 → Option (Unit × Sg)), (∀ (g : Sg) (x1 : Int32) (x2 : Int32) (x3 : Int32) (x4 : Int32) (x5 : Int32) (x6 : Int32) (x7 : Int32) (H : Heap) (locs : List Loc) (ls : Array Slot), va_P (dC, dI) vwCl (qs_W h c g) H → va_D A (qs_W h c g) → va_S A s.heap H locs → lv_has ls 9 [(0, .ref (h 5)), (1, .int (x1)), (2, .int (x2)), (3, .int (x3)), (4, .int (x4)), (5, .int (x5)), (6, .int (x6)), (7, .int (x7))] → k32 g x1 x2 x3 x4 x5 x6 x7 = some ((), u0) → W p l e (headSpec (qs_ws y_V_meetWalls b_V_meetWalls 9 none) ({ frames := 3, cells := 0, slots := 0, locals := 66 } : Room)).room s m ([.ref (h 5), .int a1, .int a2, .int a3] : List Value).toArray below meth cd H locs 0 0 (MQ below (va_Qv (fun (u : Sg) => u = u0) (qs_at dC dI h c A) A) ([.ref (h 5), .int a1, .int a2, .int a3] : List Value).toArray s 0 0 A) (F0 m 32 ls [])) → ∀ (g : Sg) (x1 : Int32) (x2 : Int32) (x3 : Int32) (x4 : Int32) (x5 : Int32) (x6 : Int32) (x7 : Int32) (y0 : Int32) (H : Heap) (locs : List Loc) (ls : Array Slot), va_P (dC, dI) vwCl (qs_W h c g) H → va_D A (qs_W h c g) → va_S A s.heap H locs → lv_has ls 9 [(0, .ref (h 5)), (1, .int (x1)), (2, .int (x2)), (3, .int (x3)), (4, .int (x4)), (5, .int (x5)), (6, .int (x6)), (7, .int (x7))] → f_V_meetWalls_123 k32  g x1 x2 x3 x4 x5 x6 x7 y0 = some ((), u0) → W p l e (headSpec (qs_ws y_V_meetWalls b_V_meetWalls 9 none) ({ frames := 3, cells := 0, slots := 0, locals := 66 } : Room)).room s m ([.ref (h 5), .int a1, .int a2, .int a3] : List Value).toArray below meth cd H locs 0 0 (MQ below (va_Qv (fun (u : Sg) => u = u0) (qs_at dC dI h c A) A) ([.ref (h 5), .int a1, .int a2, .int a3] : List Value).toArray s 0 0 A) (F0 m 123 ls [.int (y0)]) := by
    intro k32 hk32
    intro g x1 x2 x3 x4 x5 x6 x7 y0 H locs ls hP hD hS hl hF
    unfold f_V_meetWalls_123 at hF
    refine lv_istore (lv' := [(8, .int (y0)), (0, .ref (h 5)), (1, .int (x1)), (2, .int (x2)), (3, .int (x3)), (4, .int (x4)), (5, .int (x5)), (6, .int (x6)), (7, .int (x7))]) hx hb d_V_meetWalls_123 hl (by decide) rfl (fun ls hl => ?_)
    refine lv_aload_n hx hb d_V_meetWalls_125 rfl (lv_at hl 1 rfl) ?_
    refine lv_iconst (v := (-1)) hx hb d_V_meetWalls_126 (by decide) ?_
    refine lv_iload hx hb d_V_meetWalls_127 (lv_at hl 0 rfl) ?_
    obtain ⟨r21, u22, hX, hF⟩ := qs_bn_some hF
    refine qs_cv (Wd := qs_W h c) (isC := [0, 1, 2, 3, 4, 5, 6, 7, 8, 9, 10, 11, 12, 13, 14, 15, 16]) (va_runV (own := "QuakeServer$Mover") (C := "QuakeServer$Mover") (As := [.int ((-1)), .int (y0)]) (rest := []) ⟨hx, hb, hml, hown, hg⟩ (c_V_meet l dC dI h c H.size g ((-1)) (y0)  u22 hX) (cwV 2 hg (qs_gV t_561 t_563 tp_12 t_6 t_564) rfl rfl rfl (by decide +kernel) ⟨Nat.le_of_ble_eq_true rfl, Nat.le_of_ble_eq_true rfl⟩) ⟨qs_blind, va_recv hK hP (ci := 4) (q0 := 5) rfl rfl, fun U hU hW => ⟨rfl, by rw [hU], by rw [hU]; exact hP, va_K.moved hW.alike hK, hD.weaken (fun _ _ _ _ => trivial), hNs.warm hW⟩⟩ rfl rfl hl.1 rfl (lv_room (Nat.le_of_ble_eq_true rfl)) d_V_meetWalls_129 ⟨Nat.le_of_ble_eq_true rfl, Nat.le_of_ble_eq_true rfl⟩) rfl hP hD hS hA (fun H locs hP hD hS => ?_)
    exact kb_132 _ hk32 u22 (x1) (x2) (x3) (x4) (x5) (x6) (x7) H locs ls hP hD hS (lv_sub hl [1, 2, 3, 4, 5, 6, 7, 8] rfl) hF
  have kb_32 : ∀ n : Nat, ∀ (g : Sg) (x1 : Int32) (x2 : Int32) (x3 : Int32) (x4 : Int32) (x5 : Int32) (x6 : Int32) (x7 : Int32) (H : Heap) (locs : List Loc) (ls : Array Slot), va_P (dC, dI) vwCl (qs_W h c g) H → va_D A (qs_W h c g) → va_S A s.heap H locs → lv_has ls 9 [(0, .ref (h 5)), (1, .int (x1)), (2, .int (x2)), (3, .int (x3)), (4, .int (x4)), (5, .int (x5)), (6, .int (x6)), (7, .int (x7))] → f_V_meetWalls_32 n g x1 x2 x3 x4 x5 x6 x7 = some ((), u0) → W p l e (headSpec (qs_ws y_V_meetWalls b_V_meetWalls 9 none) ({ frames := 3, cells := 0, slots := 0, locals := 66 } : Room)).room s m ([.ref (h 5), .int a1, .int a2, .int a3] : List Value).toArray below meth cd H locs 0 0 (MQ below (va_Qv (fun (u : Sg) => u = u0) (qs_at dC dI h c A) A) ([.ref (h 5), .int a1, .int a2, .int a3] : List Value).toArray s 0 0 A) (F0 m 32 ls []) := by
    intro n
    induction n with
    | zero =>
      intro g x1 x2 x3 x4 x5 x6 x7 H locs ls hP hD hS hl hF
      exact nomatch (show (none : Option (Unit × Sg)) = some _ from hF)
    | succ n ih =>
      intro g x1 x2 x3 x4 x5 x6 x7 H locs ls hP hD hS hl hF
      rw [f_V_meetWalls_32] at hF
      refine lv_iload hx hb d_V_meetWalls_32 (lv_at hl 7 rfl) ?_
      refine lv_aload_n hx hb d_V_meetWalls_34 rfl (lv_at hl 0 rfl) ?_
      refine va_get (D := (dC, dI)) (ci := 4) (v := .ref (h 2)) (C := R_V) (T := T_V) (N := 6) hx hb hg in_V hown hK hP 5 rfl rfl 1 (by decide) (hg _ t_124) (fun _ h9 => h9) rfl d_V_meetWalls_35 ?_
      refine va_getN (D := (dC, dI)) (ci := 1) (v := .int (g 20 0)) (C := R_W) (T := T_W) (N := 3) hx hb hg in_W hown hK hP 2 rfl rfl 2 (by decide) (va_Nw.use rfl (nF_1 hNs)) (fun _ h9 => h9) rfl d_V_meetWalls_38 ?_
      refine lv_icmp_ge (tgt := 138) hx hb d_V_meetWalls_41 (by decide) (fun c5 => ?_) (fun c5 => ?_)
      · have hF := qs_pos c5 hF
        obtain ⟨h8, h9⟩ := qs_ret hF
        exact W.vret hx hb hr (fun t ht hW => ⟨⟨g, rfl, h9, by rw [ht]; exact hP, va_K.moved hW.alike hK, hD⟩, hS.F ht⟩) hS.2.2 d_V_meetWalls_138
      · have hF := qs_neg c5 hF
        refine lv_iload hx hb d_V_meetWalls_44 (lv_at hl 5 rfl) ?_
        refine lv_aload_n hx hb d_V_meetWalls_46 rfl (lv_at hl 0 rfl) ?_
        refine va_get (D := (dC, dI)) (ci := 4) (v := .ref (h 2)) (C := R_V) (T := T_V) (N := 6) hx hb hg in_V hown hK hP 5 rfl rfl 1 (by decide) (hg _ t_124) (fun _ h9 => h9) rfl d_V_meetWalls_47 ?_
        refine lv_iload hx hb d_V_meetWalls_50 (lv_at hl 7 rfl) ?_
        refine lv_iload hx hb d_V_meetWalls_52 (lv_at hl 4 rfl) ?_
        obtain ⟨r6, u7, hX, hF⟩ := qs_bn_some hF
        refine qs_ci (Wd := qs_W h c) (isC := [0, 1, 2, 3, 4, 5, 6, 7, 8, 9, 10, 11, 12, 13, 14, 15, 16]) (va_runV (own := "QuakeServer$Mover") (C := "QuakeServer$Walls") (As := [.int (x7), .int (x4)]) (rest := [.int (x5)]) ⟨hx, hb, hml, hown, hg⟩ (c_W_high l dC dI h c H.size g (x7) (x4) r6 u7 hX) (cwV 2 hg (qs_gV t_553 t_554 t_555 t_3 t_556) rfl rfl rfl (by decide +kernel) ⟨Nat.le_of_ble_eq_true rfl, Nat.le_of_ble_eq_true rfl⟩) ⟨qs_blind, va_recv hK hP (ci := 1) (q0 := 2) rfl rfl, fun U hU hW => ⟨rfl, by rw [hU], by rw [hU]; exact hP, va_K.moved hW.alike hK, hD.weaken (fun _ _ _ _ => trivial), hNs.warm hW⟩⟩ rfl rfl hl.1 rfl (lv_room (Nat.le_of_ble_eq_true rfl)) d_V_meetWalls_54 ⟨Nat.le_of_ble_eq_true rfl, Nat.le_of_ble_eq_true rfl⟩) rfl hP hD hS hA (fun H locs hP hD hS => ?_)
        refine lv_icmp_ge (tgt := 132) hx hb d_V_meetWalls_57 (by decide) (fun c8 => ?_) (fun c8 => ?_)
        · have hF := qs_pos c8 hF
          exact kb_132 _ ih u7 (x1) (x2) (x3) (x4) (x5) (x6) (x7) H locs ls hP hD hS (lv_sub hl [0, 1, 2, 3, 4, 5, 6, 7] rfl) hF
        · have hF := qs_neg c8 hF
          refine lv_aload_n hx hb d_V_meetWalls_60 rfl (lv_at hl 0 rfl) ?_
          refine va_get (D := (dC, dI)) (ci := 4) (v := .ref (h 2)) (C := R_V) (T := T_V) (N := 6) hx hb hg in_V hown hK hP 5 rfl rfl 1 (by decide) (hg _ t_124) (fun _ h9 => h9) rfl d_V_meetWalls_61 ?_
          refine lv_iload hx hb d_V_meetWalls_64 (lv_at hl 7 rfl) ?_
          refine lv_iload hx hb d_V_meetWalls_66 (lv_at hl 4 rfl) ?_
          obtain ⟨r9, u10, hX, hF⟩ := qs_bn_some hF
          refine qs_ci (Wd := qs_W h c) (isC := [0, 1, 2, 3, 4, 5, 6, 7, 8, 9, 10, 11, 12, 13, 14, 15, 16]) (va_runV (own := "QuakeServer$Mover") (C := "QuakeServer$Walls") (As := [.int (x7), .int (x4)]) (rest := []) ⟨hx, hb, hml, hown, hg⟩ (c_W_low l dC dI h c H.size u7 (x7) (x4) r9 u10 hX) (cwV 2 hg (qs_gV t_557 t_558 t_559 t_3 t_560) rfl rfl rfl (by decide +kernel) ⟨Nat.le_of_ble_eq_true rfl, Nat.le_of_ble_eq_true rfl⟩) ⟨qs_blind, va_recv hK hP (ci := 1) (q0 := 2) rfl rfl, fun U hU hW => ⟨rfl, by rw [hU], by rw [hU]; exact hP, va_K.moved hW.alike hK, hD.weaken (fun _ _ _ _ => trivial), hNs.warm hW⟩⟩ rfl rfl hl.1 rfl (lv_room (Nat.le_of_ble_eq_true rfl)) d_V_meetWalls_68 ⟨Nat.le_of_ble_eq_true rfl, Nat.le_of_ble_eq_true rfl⟩) rfl hP hD hS hA (fun H locs hP hD hS => ?_)
          refine lv_iload hx hb d_V_meetWalls_71 (lv_at hl 6 rfl) ?_
          refine lv_icmp_ge (tgt := 132) hx hb d_V_meetWalls_73 (by decide) (fun c11 => ?_) (fun c11 => ?_)
          · have hF := qs_pos c11 hF
            exact kb_132 _ ih u10 (x1) (x2) (x3) (x4) (x5) (x6) (x7) H locs ls hP hD hS (lv_sub hl [0, 1, 2, 3, 4, 5, 6, 7] rfl) hF
          · have hF := qs_neg c11 hF
            refine lv_iload_n hx hb d_V_meetWalls_76 rfl (lv_at hl 3 rfl) ?_
            refine lv_if_eq (tgt := 103) hx hb d_V_meetWalls_77 (by decide) (fun c12 => ?_) (fun c12 => ?_)
            · have hF := qs_pos c12 hF
              refine lv_aload_n hx hb d_V_meetWalls_103 rfl (lv_at hl 0 rfl) ?_
              refine va_get (D := (dC, dI)) (ci := 4) (v := .ref (h 1)) (C := R_V) (T := T_V) (N := 6) hx hb hg in_V hown hK hP 5 rfl rfl 0 (by decide) (hg _ t_123) (fun _ h9 => h9) rfl d_V_meetWalls_104 ?_
              refine lv_iload_n hx hb d_V_meetWalls_107 rfl (lv_at hl 1 rfl) ?_
              refine lv_iload_n hx hb d_V_meetWalls_108 rfl (lv_at hl 2 rfl) ?_
              obtain ⟨r13, u14, hX, hF⟩ := qs_bn_some hF
              refine qs_ci (Wd := qs_W h c) (isC := [0, 1, 2, 3, 4, 5, 6, 7, 8, 9, 10, 11, 12, 13, 14, 15, 16]) (va_runV (own := "QuakeServer$Mover") (C := "QuakeServer$Entities") (As := [.int (x1), .int (x2)]) (rest := []) ⟨hx, hb, hml, hown, hg⟩ (c_E_low l dC dI h c H.size u10 (x1) (x2) r13 u14 hX) (cwV 2 hg (qs_gV t_535 t_536 t_537 t_2 t_538) rfl rfl rfl (by decide +kernel) ⟨Nat.le_of_ble_eq_true rfl, Nat.le_of_ble_eq_true rfl⟩) ⟨qs_blind, va_recv hK hP (ci := 0) (q0 := 1) rfl rfl, fun U hU hW => ⟨rfl, by rw [hU], by rw [hU]; exact hP, va_K.moved hW.alike hK, hD.weaken (fun _ _ _ _ => trivial), hNs.warm hW⟩⟩ rfl rfl hl.1 rfl (lv_room (Nat.le_of_ble_eq_true rfl)) d_V_meetWalls_109 ⟨Nat.le_of_ble_eq_true rfl, Nat.le_of_ble_eq_true rfl⟩) rfl hP hD hS hA (fun H locs hP hD hS => ?_)
              refine lv_aload_n hx hb d_V_meetWalls_112 rfl (lv_at hl 0 rfl) ?_
              refine va_get (D := (dC, dI)) (ci := 4) (v := .ref (h 2)) (C := R_V) (T := T_V) (N := 6) hx hb hg in_V hown hK hP 5 rfl rfl 1 (by decide) (hg _ t_124) (fun _ h9 => h9) rfl d_V_meetWalls_113 ?_
              refine lv_iload hx hb d_V_meetWalls_116 (lv_at hl 7 rfl) ?_
              refine lv_iload_n hx hb d_V_meetWalls_118 rfl (lv_at hl 2 rfl) ?_
              obtain ⟨r15, u16, hX, hF⟩ := qs_bn_some hF
              refine qs_ci (Wd := qs_W h c) (isC := [0, 1, 2, 3, 4, 5, 6, 7, 8, 9, 10, 11, 12, 13, 14, 15, 16]) (va_runV (own := "QuakeServer$Mover") (C := "QuakeServer$Walls") (As := [.int (x7), .int (x2)]) (rest := [.int (r13)]) ⟨hx, hb, hml, hown, hg⟩ (c_W_high l dC dI h c H.size u14 (x7) (x2) r15 u16 hX) (cwV 2 hg (qs_gV t_553 t_554 t_555 t_3 t_556) rfl rfl rfl (by decide +kernel) ⟨Nat.le_of_ble_eq_true rfl, Nat.le_of_ble_eq_true rfl⟩) ⟨qs_blind, va_recv hK hP (ci := 1) (q0 := 2) rfl rfl, fun U hU hW => ⟨rfl, by rw [hU], by rw [hU]; exact hP, va_K.moved hW.alike hK, hD.weaken (fun _ _ _ _ => trivial), hNs.warm hW⟩⟩ rfl rfl hl.1 rfl (lv_room (Nat.le_of_ble_eq_true rfl)) d_V_meetWalls_119 ⟨Nat.le_of_ble_eq_true rfl, Nat.le_of_ble_eq_true rfl⟩) rfl hP hD hS hA (fun H locs hP hD hS => ?_)
              refine lv_isub hx hb d_V_meetWalls_122 ?_
              exact kb_123 _ ih u16 (x1) (x2) (x3) (x4) (x5) (x6) (x7) (r13 - r15) H locs ls hP hD hS (lv_sub hl [0, 1, 2, 3, 4, 5, 6, 7] rfl) hF
            · have hF := qs_neg c12 hF
              refine lv_aload_n hx hb d_V_meetWalls_80 rfl (lv_at hl 0 rfl) ?_
              refine va_get (D := (dC, dI)) (ci := 4) (v := .ref (h 2)) (C := R_V) (T := T_V) (N := 6) hx hb hg in_V hown hK hP 5 rfl rfl 1 (by decide) (hg _ t_124) (fun _ h9 => h9) rfl d_V_meetWalls_81 ?_
              refine lv_iload hx hb d_V_meetWalls_84 (lv_at hl 7 rfl) ?_
              refine lv_iload_n hx hb d_V_meetWalls_86 rfl (lv_at hl 2 rfl) ?_
              obtain ⟨r17, u18, hX, hF⟩ := qs_bn_some hF
              refine qs_ci (Wd := qs_W h c) (isC := [0, 1, 2, 3, 4, 5, 6, 7, 8, 9, 10, 11, 12, 13, 14, 15, 16]) (va_runV (own := "QuakeServer$Mover") (C := "QuakeServer$Walls") (As := [.int (x7), .int (x2)]) (rest := []) ⟨hx, hb, hml, hown, hg⟩ (c_W_low l dC dI h c H.size u10 (x7) (x2) r17 u18 hX) (cwV 2 hg (qs_gV t_557 t_558 t_559 t_3 t_560) rfl rfl rfl (by decide +kernel) ⟨Nat.le_of_ble_eq_true rfl, Nat.le_of_ble_eq_true rfl⟩) ⟨qs_blind, va_recv hK hP (ci := 1) (q0 := 2) rfl rfl, fun U hU hW => ⟨rfl, by rw [hU], by rw [hU]; exact hP, va_K.moved hW.alike hK, hD.weaken (fun _ _ _ _ => trivial), hNs.warm hW⟩⟩ rfl rfl hl.1 rfl (lv_room (Nat.le_of_ble_eq_true rfl)) d_V_meetWalls_87 ⟨Nat.le_of_ble_eq_true rfl, Nat.le_of_ble_eq_true rfl⟩) rfl hP hD hS hA (fun H locs hP hD hS => ?_)
              refine lv_aload_n hx hb d_V_meetWalls_90 rfl (lv_at hl 0 rfl) ?_
              refine va_get (D := (dC, dI)) (ci := 4) (v := .ref (h 1)) (C := R_V) (T := T_V) (N := 6) hx hb hg in_V hown hK hP 5 rfl rfl 0 (by decide) (hg _ t_123) (fun _ h9 => h9) rfl d_V_meetWalls_91 ?_
              refine lv_iload_n hx hb d_V_meetWalls_94 rfl (lv_at hl 1 rfl) ?_
              refine lv_iload_n hx hb d_V_meetWalls_95 rfl (lv_at hl 2 rfl) ?_
              obtain ⟨r19, u20, hX, hF⟩ := qs_bn_some hF
              refine qs_ci (Wd := qs_W h c) (isC := [0, 1, 2, 3, 4, 5, 6, 7, 8, 9, 10, 11, 12, 13, 14, 15, 16]) (va_runV (own := "QuakeServer$Mover") (C := "QuakeServer$Entities") (As := [.int (x1), .int (x2)]) (rest := [.int (r17)]) ⟨hx, hb, hml, hown, hg⟩ (c_E_high l dC dI h c H.size u18 (x1) (x2) r19 u20 hX) (cwV 2 hg (qs_gV t_549 t_550 t_551 t_2 t_552) rfl rfl rfl (by decide +kernel) ⟨Nat.le_of_ble_eq_true rfl, Nat.le_of_ble_eq_true rfl⟩) ⟨qs_blind, va_recv hK hP (ci := 0) (q0 := 1) rfl rfl, fun U hU hW => ⟨rfl, by rw [hU], by rw [hU]; exact hP, va_K.moved hW.alike hK, hD.weaken (fun _ _ _ _ => trivial), hNs.warm hW⟩⟩ rfl rfl hl.1 rfl (lv_room (Nat.le_of_ble_eq_true rfl)) d_V_meetWalls_96 ⟨Nat.le_of_ble_eq_true rfl, Nat.le_of_ble_eq_true rfl⟩) rfl hP hD hS hA (fun H locs hP hD hS => ?_)
              refine lv_isub hx hb d_V_meetWalls_99 ?_
              refine lv_goto (tgt := 123) hx hb d_V_meetWalls_100 (by decide) ?_
              exact kb_123 _ ih u20 (x1) (x2) (x3) (x4) (x5) (x6) (x7) (r17 - r19) H locs ls hP hD hS (lv_sub hl [0, 1, 2, 3, 4, 5, 6, 7] rfl) hF
  have hl := lv_entry ([.ref (h 5), .int a1, .int a2, .int a3] : List Value) (n := 9) (Nat.le_of_ble_eq_true rfl)
  rw [lg_entry_eq]
  generalize (lg_sl ([.ref (h 5), .int a1, .int a2, .int a3] : List Value) ++ List.replicate (9 - (lg_sl ([.ref (h 5), .int a1, .int a2, .int a3] : List Value)).length) Slot.unset).toArray = ls at hl ⊢
  have hl : lv_has ls 9 [(0, .ref (h 5)), (1, .int (a1)), (2, .int (a2)), (3, .int (a3))] := hl
  unfold f_V_meetWalls at hF
  obtain ⟨H, hHe⟩ : ∃ H, H = s.heap := ⟨_, rfl⟩
  obtain ⟨locs, hLe⟩ : ∃ L : List Loc, L = [] := ⟨_, rfl⟩
  rw [← hHe] at hP ⊢
  rw [← hLe]
  have hS : va_S A s.heap H locs := by rw [hHe, hLe]; exact hS
  refine lv_iconst (v := 1) hx hb d_V_meetWalls_0 (by decide) ?_
  refine lv_iload_n hx hb d_V_meetWalls_1 rfl (lv_at hl 2 rfl) ?_
  refine lv_isub hx hb d_V_meetWalls_2 ?_
  refine lv_istore (lv' := [(4, .int (1 - a2)), (0, .ref (h 5)), (1, .int (a1)), (2, .int (a2)), (3, .int (a3))]) hx hb d_V_meetWalls_3 hl (by decide) rfl (fun ls hl => ?_)
  refine lv_aload_n hx hb d_V_meetWalls_5 rfl (lv_at hl 1 rfl) ?_
  refine va_get (D := (dC, dI)) (ci := 4) (v := .ref (h 1)) (C := R_V) (T := T_V) (N := 6) hx hb hg in_V hown hK hP 5 rfl rfl 0 (by decide) (hg _ t_123) (fun _ h9 => h9) rfl d_V_meetWalls_6 ?_
  refine lv_iload_n hx hb d_V_meetWalls_9 rfl (lv_at hl 2 rfl) ?_
  refine lv_iload hx hb d_V_meetWalls_10 (lv_at hl 0 rfl) ?_
  obtain ⟨r1, u2, hX, hF⟩ := qs_bn_some hF
  refine qs_ci (Wd := qs_W h c) (isC := [0, 1, 2, 3, 4, 5, 6, 7, 8, 9, 10, 11, 12, 13, 14, 15, 16]) (va_runV (own := "QuakeServer$Mover") (C := "QuakeServer$Entities") (As := [.int (a1), .int (1 - a2)]) (rest := []) ⟨hx, hb, hml, hown, hg⟩ (c_E_low l dC dI h c H.size g (a1) (1 - a2) r1 u2 hX) (cwV 2 hg (qs_gV t_535 t_536 t_537 t_2 t_538) rfl rfl rfl (by decide +kernel) ⟨Nat.le_of_ble_eq_true rfl, Nat.le_of_ble_eq_true rfl⟩) ⟨qs_blind, va_recv hK hP (ci := 0) (q0 := 1) rfl rfl, fun U hU hW => ⟨rfl, by rw [hU], by rw [hU]; exact hP, va_K.moved hW.alike hK, hD.weaken (fun _ _ _ _ => trivial), hNs.warm hW⟩⟩ rfl rfl hl.1 rfl (lv_room (Nat.le_of_ble_eq_true rfl)) d_V_meetWalls_12 ⟨Nat.le_of_ble_eq_true rfl, Nat.le_of_ble_eq_true rfl⟩) rfl hP hD hS hA (fun H locs hP hD hS => ?_)
  refine lv_istore (lv' := [(5, .int (r1)), (4, .int (1 - a2)), (0, .ref (h 5)), (1, .int (a1)), (2, .int (a2)), (3, .int (a3))]) hx hb d_V_meetWalls_15 hl (by decide) rfl (fun ls hl => ?_)
  refine lv_aload_n hx hb d_V_meetWalls_17 rfl (lv_at hl 2 rfl) ?_
  refine va_get (D := (dC, dI)) (ci := 4) (v := .ref (h 1)) (C := R_V) (T := T_V) (N := 6) hx hb hg in_V hown hK hP 5 rfl rfl 0 (by decide) (hg _ t_123) (fun _ h9 => h9) rfl d_V_meetWalls_18 ?_
  refine lv_iload_n hx hb d_V_meetWalls_21 rfl (lv_at hl 3 rfl) ?_
  refine lv_iload hx hb d_V_meetWalls_22 (lv_at hl 1 rfl) ?_
  obtain ⟨r3, u4, hX, hF⟩ := qs_bn_some hF
  refine qs_ci (Wd := qs_W h c) (isC := [0, 1, 2, 3, 4, 5, 6, 7, 8, 9, 10, 11, 12, 13, 14, 15, 16]) (va_runV (own := "QuakeServer$Mover") (C := "QuakeServer$Entities") (As := [.int (a1), .int (1 - a2)]) (rest := []) ⟨hx, hb, hml, hown, hg⟩ (c_E_high l dC dI h c H.size u2 (a1) (1 - a2) r3 u4 hX) (cwV 2 hg (qs_gV t_549 t_550 t_551 t_2 t_552) rfl rfl rfl (by decide +kernel) ⟨Nat.le_of_ble_eq_true rfl, Nat.le_of_ble_eq_true rfl⟩) ⟨qs_blind, va_recv hK hP (ci := 0) (q0 := 1) rfl rfl, fun U hU hW => ⟨rfl, by rw [hU], by rw [hU]; exact hP, va_K.moved hW.alike hK, hD.weaken (fun _ _ _ _ => trivial), hNs.warm hW⟩⟩ rfl rfl hl.1 rfl (lv_room (Nat.le_of_ble_eq_true rfl)) d_V_meetWalls_24 ⟨Nat.le_of_ble_eq_true rfl, Nat.le_of_ble_eq_true rfl⟩) rfl hP hD hS hA (fun H locs hP hD hS => ?_)
  refine lv_istore (lv' := [(6, .int (r3)), (5, .int (r1)), (4, .int (1 - a2)), (0, .ref (h 5)), (1, .int (a1)), (2, .int (a2)), (3, .int (a3))]) hx hb d_V_meetWalls_27 hl (by decide) rfl (fun ls hl => ?_)
  refine lv_iconst (v := 0) hx hb d_V_meetWalls_29 (by decide) ?_
  refine lv_istore (lv' := [(7, .int (0)), (6, .int (r3)), (5, .int (r1)), (4, .int (1 - a2)), (0, .ref (h 5)), (1, .int (a1)), (2, .int (a2)), (3, .int (a3))]) hx hb d_V_meetWalls_30 hl (by decide) rfl (fun ls hl => ?_)
  exact kb_32 200 u4 (a1) (a2) (a3) (1 - a2) (r1) (r3) (0) H locs ls hP hD hS (lv_sub hl [4, 5, 6, 7, 3, 2, 1, 0] rfl) hF

theorem d_V_mayBlock_0 : decode b_V_mayBlock 0 = .ok (.iload_n 1, 1) := by decide +kernel
theorem d_V_mayBlock_1 : decode b_V_mayBlock 1 = .ok (.iload_n 2, 1) := by decide +kernel
theorem d_V_mayBlock_2 : decode b_V_mayBlock 2 = .ok (.if_icmp .eq 52, 3) := by decide +kernel
theorem d_V_mayBlock_5 : decode b_V_mayBlock 5 = .ok (.aload_n 0, 1) := by decide +kernel
theorem d_V_mayBlock_6 : decode b_V_mayBlock 6 = .ok (.getfield 9, 3) := by decide +kernel
theorem d_V_mayBlock_9 : decode b_V_mayBlock 9 = .ok (.iload_n 1, 1) := by decide +kernel
theorem d_V_mayBlock_10 : decode b_V_mayBlock 10 = .ok (.iconst 5, 1) := by decide +kernel
theorem d_V_mayBlock_11 : decode b_V_mayBlock 11 = .ok (.invokevirtual 23, 3) := by decide +kernel
theorem d_V_mayBlock_14 : decode b_V_mayBlock 14 = .ok (.iconst 2, 1) := by decide +kernel
theorem d_V_mayBlock_15 : decode b_V_mayBlock 15 = .ok (.if_icmp .ne 39, 3) := by decide +kernel
theorem d_V_mayBlock_18 : decode b_V_mayBlock 18 = .ok (.aload_n 0, 1) := by decide +kernel
theorem d_V_mayBlock_19 : decode b_V_mayBlock 19 = .ok (.getfield 9, 3) := by decide +kernel
theorem d_V_mayBlock_22 : decode b_V_mayBlock 22 = .ok (.iload_n 2, 1) := by decide +kernel
theorem d_V_mayBlock_23 : decode b_V_mayBlock 23 = .ok (.bipush 11, 2) := by decide +kernel
theorem d_V_mayBlock_25 : decode b_V_mayBlock 25 = .ok (.invokevirtual 23, 3) := by decide +kernel
theorem d_V_mayBlock_28 : decode b_V_mayBlock 28 = .ok (.iconst 1, 1) := by decide +kernel
theorem d_V_mayBlock_29 : decode b_V_mayBlock 29 = .ok (.isub, 1) := by decide +kernel
theorem d_V_mayBlock_30 : decode b_V_mayBlock 30 = .ok (.iload_n 1, 1) := by decide +kernel
theorem d_V_mayBlock_31 : decode b_V_mayBlock 31 = .ok (.if_icmp .eq 23, 3) := by decide +kernel
theorem d_V_mayBlock_34 : decode b_V_mayBlock 34 = .ok (.aload_n 0, 1) := by decide +kernel
theorem d_V_mayBlock_35 : decode b_V_mayBlock 35 = .ok (.getfield 9, 3) := by decide +kernel
theorem d_V_mayBlock_38 : decode b_V_mayBlock 38 = .ok (.iload_n 1, 1) := by decide +kernel
theorem d_V_mayBlock_39 : decode b_V_mayBlock 39 = .ok (.bipush 11, 2) := by decide +kernel
theorem d_V_mayBlock_41 : decode b_V_mayBlock 41 = .ok (.invokevirtual 23, 3) := by decide +kernel
theorem d_V_mayBlock_44 : decode b_V_mayBlock 44 = .ok (.iconst 1, 1) := by decide +kernel
theorem d_V_mayBlock_45 : decode b_V_mayBlock 45 = .ok (.isub, 1) := by decide +kernel
theorem d_V_mayBlock_46 : decode b_V_mayBlock 46 = .ok (.iload_n 2, 1) := by decide +kernel
theorem d_V_mayBlock_47 : decode b_V_mayBlock 47 = .ok (.if_icmp .eq 7, 3) := by decide +kernel
theorem d_V_mayBlock_50 : decode b_V_mayBlock 50 = .ok (.iconst 1, 1) := by decide +kernel
theorem d_V_mayBlock_51 : decode b_V_mayBlock 51 = .ok (.goto 4, 3) := by decide +kernel
theorem d_V_mayBlock_54 : decode b_V_mayBlock 54 = .ok (.iconst 0, 1) := by decide +kernel
theorem d_V_mayBlock_55 : decode b_V_mayBlock 55 = .ok (.ireturn, 1) := by decide +kernel
def f_V_mayBlock (g : Sg) (a1 : Int32) (a2 : Int32) : Option (Int32 × Sg) := (if a1 = a2 then (some (0, g)) else (qs_bn (f_E_wholeField g (a1) (5)) fun r2 u3 => (if r2 = 2 then (qs_bn (f_E_wholeField u3 (a2) (11)) fun r5 u6 => (if (r5 - 1) = a1 then (some (0, u6)) else (qs_bn (f_E_wholeField u6 (a1) (11)) fun r8 u9 => (if (r8 - 1) = a2 then (some (0, u9)) else (some (1, u9)))))) else (some (0, u3)))))
set_option maxHeartbeats 4000000 in
set_option maxRecDepth 100000 in
theorem c_V_mayBlock (l : Launch) (dC : Nat → ClassId) (dI : Nat → Nat → Nat) (h : Nat → Nat) (c : Nat → ClassId) (sz : Nat) (g : Sg) (a1 : Int32) (a2 : Int32) (r0 : Int32) (u0 : Sg) (hF : f_V_mayBlock g a1 a2 = some (r0, u0)) : Met l y_V_mayBlock (qs_ws y_V_mayBlock b_V_mayBlock 3 (some .boolean)) ({ frames := 2, cells := 0, slots := 0, locals := 44 } : Room) (va_Pc ([.ref (h 5), .int a1, .int a2] : List Value) (fun U => U.heap.size = sz ∧ va_P (dC, dI) vwCl (qs_W h c g) U.heap ∧ va_K (dC, dI) vwCl (qs_T c) U ∧ va_D (fun _ => True) (qs_W h c g) ∧ qs_N U)) (va_Qi (fun (r : Int32) (u : Sg) => r = r0 ∧ u = u0) (qs_at dC dI h c (va_A (qs_W h c g) sz)) (va_A (qs_W h c g) sz)) 0 0 (va_A (qs_W h c g) sz) := by
  refine Met.ofW (cc := b_V_mayBlock) (maxL := 3) (ret := (some .boolean)) (by decide +kernel) rfl ?_
  intro p e s m args below meth cd s₁ B hml hv
  obtain ⟨rfl, hsz, hP, hK, hD0, hNs⟩ := hv
  have hx := B.exec
  have hb := B.bytes
  have hr := B.returns
  have hts := atoms_spec (ws := (qs_ws y_V_mayBlock b_V_mayBlock 3 (some .boolean))) B.pre
  have hg : ∀ w ∈ qs_gt, w.before _ s = true := fun w h => hts w (List.mem_cons_of_mem _ h)
  have hown : s.vm.findClass R_V = some m.cls := findClass_of_methodNamed B.named
  have hlocks := B.notSynchronized
  subst hsz
  have hD := hD0.self (sz := s.heap.size)
  generalize hAe : va_A (qs_W h c g) s.heap.size = A at hD ⊢
  have hA : ∀ q : Nat, s.heap.size ≤ q → A q := fun q h => by rw [← hAe]; exact Or.inr h
  have hS : va_S A s.heap s.heap [] := va_S.rf
  have hl := lv_entry ([.ref (h 5), .int a1, .int a2] : List Value) (n := 3) (Nat.le_of_ble_eq_true rfl)
  rw [lg_entry_eq]
  generalize (lg_sl ([.ref (h 5), .int a1, .int a2] : List Value) ++ List.replicate (3 - (lg_sl ([.ref (h 5), .int a1, .int a2] : List Value)).length) Slot.unset).toArray = ls at hl ⊢
  have hl : lv_has ls 3 [(0, .ref (h 5)), (1, .int (a1)), (2, .int (a2))] := hl
  unfold f_V_mayBlock at hF
  obtain ⟨H, hHe⟩ : ∃ H, H = s.heap := ⟨_, rfl⟩
  obtain ⟨locs, hLe⟩ : ∃ L : List Loc, L = [] := ⟨_, rfl⟩
  rw [← hHe] at hP ⊢
  rw [← hLe]
  have hS : va_S A s.heap H locs := by rw [hHe, hLe]; exact hS
  refine lv_iload_n hx hb d_V_mayBlock_0 rfl (lv_at hl 1 rfl) ?_
  refine lv_iload_n hx hb d_V_mayBlock_1 rfl (lv_at hl 2 rfl) ?_
  refine lv_icmp_eq (tgt := 54) hx hb d_V_mayBlock_2 (by decide) (fun c1 => ?_) (fun c1 => ?_)
  · have hF := qs_pos c1 hF
    refine lv_iconst (v := 0) hx hb d_V_mayBlock_54 (by decide) ?_
    obtain ⟨h8, h9⟩ := qs_ret hF
    exact W.zret (ty := .boolean) (v := 0) hx hb hr rfl (fun t ht hW => ⟨⟨0, g, rfl, ⟨h8, h9⟩, by rw [ht]; exact hP, va_K.moved hW.alike hK, hD⟩, hS.F ht⟩) hS.2.2 d_V_mayBlock_55
  · have hF := qs_neg c1 hF
    refine lv_aload_n hx hb d_V_mayBlock_5 rfl (lv_at hl 0 rfl) ?_
    refine va_get (D := (dC, dI)) (ci := 4) (v := .ref (h 1)) (C := R_V) (T := T_V) (N := 6) hx hb hg in_V hown hK hP 5 rfl rfl 0 (by decide) (hg _ t_123) (fun _ h9 => h9) rfl d_V_mayBlock_6 ?_
    refine lv_iload_n hx hb d_V_mayBlock_9 rfl (lv_at hl 1 rfl) ?_
    refine lv_iconst (v := 5) hx hb d_V_mayBlock_10 (by decide) ?_
    obtain ⟨r2, u3, hX, hF⟩ := qs_bn_some hF
    refine qs_ci (Wd := qs_W h c) (isC := [0, 1, 2, 3, 4, 5, 6, 7, 8, 9, 10, 11, 12, 13, 14, 15, 16]) (va_runV (own := "QuakeServer$Mover") (C := "QuakeServer$Entities") (As := [.int (a1), .int (5)]) (rest := []) ⟨hx, hb, hml, hown, hg⟩ (c_E_wholeField l dC dI h c H.size g (a1) (5) r2 u3 hX) (cwV 2 hg (qs_gV t_508 t_509 t_510 t_2 t_511) rfl rfl rfl (by decide +kernel) ⟨Nat.le_of_ble_eq_true rfl, Nat.le_of_ble_eq_true rfl⟩) ⟨qs_blind, va_recv hK hP (ci := 0) (q0 := 1) rfl rfl, fun U hU hW => ⟨rfl, by rw [hU], by rw [hU]; exact hP, va_K.moved hW.alike hK, hD.weaken (fun _ _ _ _ => trivial), hNs.warm hW⟩⟩ rfl rfl hl.1 rfl (lv_room (Nat.le_of_ble_eq_true rfl)) d_V_mayBlock_11 ⟨Nat.le_of_ble_eq_true rfl, Nat.le_of_ble_eq_true rfl⟩) rfl hP hD hS hA (fun H locs hP hD hS => ?_)
    refine lv_iconst (v := 2) hx hb d_V_mayBlock_14 (by decide) ?_
    refine lv_icmp_ne (tgt := 54) hx hb d_V_mayBlock_15 (by decide) (fun c4 => ?_) (fun c4 => ?_)
    · have hF := qs_neg c4 hF
      refine lv_iconst (v := 0) hx hb d_V_mayBlock_54 (by decide) ?_
      obtain ⟨h8, h9⟩ := qs_ret hF
      exact W.zret (ty := .boolean) (v := 0) hx hb hr rfl (fun t ht hW => ⟨⟨0, u3, rfl, ⟨h8, h9⟩, by rw [ht]; exact hP, va_K.moved hW.alike hK, hD⟩, hS.F ht⟩) hS.2.2 d_V_mayBlock_55
    · have hF := qs_pos c4 hF
      refine lv_aload_n hx hb d_V_mayBlock_18 rfl (lv_at hl 0 rfl) ?_
      refine va_get (D := (dC, dI)) (ci := 4) (v := .ref (h 1)) (C := R_V) (T := T_V) (N := 6) hx hb hg in_V hown hK hP 5 rfl rfl 0 (by decide) (hg _ t_123) (fun _ h9 => h9) rfl d_V_mayBlock_19 ?_
      refine lv_iload_n hx hb d_V_mayBlock_22 rfl (lv_at hl 2 rfl) ?_
      refine lv_bipush (v := 11) hx hb d_V_mayBlock_23 (by decide) ?_
      obtain ⟨r5, u6, hX, hF⟩ := qs_bn_some hF
      refine qs_ci (Wd := qs_W h c) (isC := [0, 1, 2, 3, 4, 5, 6, 7, 8, 9, 10, 11, 12, 13, 14, 15, 16]) (va_runV (own := "QuakeServer$Mover") (C := "QuakeServer$Entities") (As := [.int (a2), .int (11)]) (rest := []) ⟨hx, hb, hml, hown, hg⟩ (c_E_wholeField l dC dI h c H.size u3 (a2) (11) r5 u6 hX) (cwV 2 hg (qs_gV t_508 t_509 t_510 t_2 t_511) rfl rfl rfl (by decide +kernel) ⟨Nat.le_of_ble_eq_true rfl, Nat.le_of_ble_eq_true rfl⟩) ⟨qs_blind, va_recv hK hP (ci := 0) (q0 := 1) rfl rfl, fun U hU hW => ⟨rfl, by rw [hU], by rw [hU]; exact hP, va_K.moved hW.alike hK, hD.weaken (fun _ _ _ _ => trivial), hNs.warm hW⟩⟩ rfl rfl hl.1 rfl (lv_room (Nat.le_of_ble_eq_true rfl)) d_V_mayBlock_25 ⟨Nat.le_of_ble_eq_true rfl, Nat.le_of_ble_eq_true rfl⟩) rfl hP hD hS hA (fun H locs hP hD hS => ?_)
      refine lv_iconst (v := 1) hx hb d_V_mayBlock_28 (by decide) ?_
      refine lv_isub hx hb d_V_mayBlock_29 ?_
      refine lv_iload_n hx hb d_V_mayBlock_30 rfl (lv_at hl 1 rfl) ?_
      refine lv_icmp_eq (tgt := 54) hx hb d_V_mayBlock_31 (by decide) (fun c7 => ?_) (fun c7 => ?_)
      · have hF := qs_pos c7 hF
        refine lv_iconst (v := 0) hx hb d_V_mayBlock_54 (by decide) ?_
        obtain ⟨h8, h9⟩ := qs_ret hF
        exact W.zret (ty := .boolean) (v := 0) hx hb hr rfl (fun t ht hW => ⟨⟨0, u6, rfl, ⟨h8, h9⟩, by rw [ht]; exact hP, va_K.moved hW.alike hK, hD⟩, hS.F ht⟩) hS.2.2 d_V_mayBlock_55
      · have hF := qs_neg c7 hF
        refine lv_aload_n hx hb d_V_mayBlock_34 rfl (lv_at hl 0 rfl) ?_
        refine va_get (D := (dC, dI)) (ci := 4) (v := .ref (h 1)) (C := R_V) (T := T_V) (N := 6) hx hb hg in_V hown hK hP 5 rfl rfl 0 (by decide) (hg _ t_123) (fun _ h9 => h9) rfl d_V_mayBlock_35 ?_
        refine lv_iload_n hx hb d_V_mayBlock_38 rfl (lv_at hl 1 rfl) ?_
        refine lv_bipush (v := 11) hx hb d_V_mayBlock_39 (by decide) ?_
        obtain ⟨r8, u9, hX, hF⟩ := qs_bn_some hF
        refine qs_ci (Wd := qs_W h c) (isC := [0, 1, 2, 3, 4, 5, 6, 7, 8, 9, 10, 11, 12, 13, 14, 15, 16]) (va_runV (own := "QuakeServer$Mover") (C := "QuakeServer$Entities") (As := [.int (a1), .int (11)]) (rest := []) ⟨hx, hb, hml, hown, hg⟩ (c_E_wholeField l dC dI h c H.size u6 (a1) (11) r8 u9 hX) (cwV 2 hg (qs_gV t_508 t_509 t_510 t_2 t_511) rfl rfl rfl (by decide +kernel) ⟨Nat.le_of_ble_eq_true rfl, Nat.le_of_ble_eq_true rfl⟩) ⟨qs_blind, va_recv hK hP (ci := 0) (q0 := 1) rfl rfl, fun U hU hW => ⟨rfl, by rw [hU], by rw [hU]; exact hP, va_K.moved hW.alike hK, hD.weaken (fun _ _ _ _ => trivial), hNs.warm hW⟩⟩ rfl rfl hl.1 rfl (lv_room (Nat.le_of_ble_eq_true rfl)) d_V_mayBlock_41 ⟨Nat.le_of_ble_eq_true rfl, Nat.le_of_ble_eq_true rfl⟩) rfl hP hD hS hA (fun H locs hP hD hS => ?_)
        refine lv_iconst (v := 1) hx hb d_V_mayBlock_44 (by decide) ?_
        refine lv_isub hx hb d_V_mayBlock_45 ?_
        refine lv_iload_n hx hb d_V_mayBlock_46 rfl (lv_at hl 2 rfl) ?_
        refine lv_icmp_eq (tgt := 54) hx hb d_V_mayBlock_47 (by decide) (fun c10 => ?_) (fun c10 => ?_)
        · have hF := qs_pos c10 hF
          refine lv_iconst (v := 0) hx hb d_V_mayBlock_54 (by decide) ?_
          obtain ⟨h8, h9⟩ := qs_ret hF
          exact W.zret (ty := .boolean) (v := 0) hx hb hr rfl (fun t ht hW => ⟨⟨0, u9, rfl, ⟨h8, h9⟩, by rw [ht]; exact hP, va_K.moved hW.alike hK, hD⟩, hS.F ht⟩) hS.2.2 d_V_mayBlock_55
        · have hF := qs_neg c10 hF
          refine lv_iconst (v := 1) hx hb d_V_mayBlock_50 (by decide) ?_
          refine lv_goto (tgt := 55) hx hb d_V_mayBlock_51 (by decide) ?_
          obtain ⟨h8, h9⟩ := qs_ret hF
          exact W.zret (ty := .boolean) (v := 1) hx hb hr rfl (fun t ht hW => ⟨⟨1, u9, rfl, ⟨h8, h9⟩, by rw [ht]; exact hP, va_K.moved hW.alike hK, hD⟩, hS.F ht⟩) hS.2.2 d_V_mayBlock_55

theorem d_V_meetEntities_0 : decode b_V_meetEntities 0 = .ok (.iconst 0, 1) := by decide +kernel
theorem d_V_meetEntities_1 : decode b_V_meetEntities 1 = .ok (.istore 4, 2) := by decide +kernel
theorem d_V_meetEntities_3 : decode b_V_meetEntities 3 = .ok (.iload 4, 2) := by decide +kernel
theorem d_V_meetEntities_5 : decode b_V_meetEntities 5 = .ok (.bipush 12, 2) := by decide +kernel
theorem d_V_meetEntities_7 : decode b_V_meetEntities 7 = .ok (.if_icmp .ge 92, 3) := by decide +kernel
theorem d_V_meetEntities_10 : decode b_V_meetEntities 10 = .ok (.aload_n 0, 1) := by decide +kernel
theorem d_V_meetEntities_11 : decode b_V_meetEntities 11 = .ok (.iload 4, 2) := by decide +kernel
theorem d_V_meetEntities_13 : decode b_V_meetEntities 13 = .ok (.iload_n 1, 1) := by decide +kernel
theorem d_V_meetEntities_14 : decode b_V_meetEntities 14 = .ok (.invokevirtual 106, 3) := by decide +kernel
theorem d_V_meetEntities_17 : decode b_V_meetEntities 17 = .ok (.ifCond .eq 76, 3) := by decide +kernel
theorem d_V_meetEntities_20 : decode b_V_meetEntities 20 = .ok (.aload_n 0, 1) := by decide +kernel
theorem d_V_meetEntities_21 : decode b_V_meetEntities 21 = .ok (.getfield 9, 3) := by decide +kernel
theorem d_V_meetEntities_24 : decode b_V_meetEntities 24 = .ok (.iload 4, 2) := by decide +kernel
theorem d_V_meetEntities_26 : decode b_V_meetEntities 26 = .ok (.iload_n 1, 1) := by decide +kernel
theorem d_V_meetEntities_27 : decode b_V_meetEntities 27 = .ok (.iconst 1, 1) := by decide +kernel
theorem d_V_meetEntities_28 : decode b_V_meetEntities 28 = .ok (.iload_n 2, 1) := by decide +kernel
theorem d_V_meetEntities_29 : decode b_V_meetEntities 29 = .ok (.isub, 1) := by decide +kernel
theorem d_V_meetEntities_30 : decode b_V_meetEntities 30 = .ok (.invokevirtual 110, 3) := by decide +kernel
theorem d_V_meetEntities_33 : decode b_V_meetEntities 33 = .ok (.ifCond .eq 60, 3) := by decide +kernel
theorem d_V_meetEntities_36 : decode b_V_meetEntities 36 = .ok (.iload_n 3, 1) := by decide +kernel
theorem d_V_meetEntities_37 : decode b_V_meetEntities 37 = .ok (.ifCond .eq 26, 3) := by decide +kernel
theorem d_V_meetEntities_40 : decode b_V_meetEntities 40 = .ok (.aload_n 0, 1) := by decide +kernel
theorem d_V_meetEntities_41 : decode b_V_meetEntities 41 = .ok (.getfield 9, 3) := by decide +kernel
theorem d_V_meetEntities_44 : decode b_V_meetEntities 44 = .ok (.iload 4, 2) := by decide +kernel
theorem d_V_meetEntities_46 : decode b_V_meetEntities 46 = .ok (.iload_n 2, 1) := by decide +kernel
theorem d_V_meetEntities_47 : decode b_V_meetEntities 47 = .ok (.invokevirtual 90, 3) := by decide +kernel
theorem d_V_meetEntities_50 : decode b_V_meetEntities 50 = .ok (.aload_n 0, 1) := by decide +kernel
theorem d_V_meetEntities_51 : decode b_V_meetEntities 51 = .ok (.getfield 9, 3) := by decide +kernel
theorem d_V_meetEntities_54 : decode b_V_meetEntities 54 = .ok (.iload_n 1, 1) := by decide +kernel
theorem d_V_meetEntities_55 : decode b_V_meetEntities 55 = .ok (.iload_n 2, 1) := by decide +kernel
theorem d_V_meetEntities_56 : decode b_V_meetEntities 56 = .ok (.invokevirtual 93, 3) := by decide +kernel
theorem d_V_meetEntities_59 : decode b_V_meetEntities 59 = .ok (.isub, 1) := by decide +kernel
theorem d_V_meetEntities_60 : decode b_V_meetEntities 60 = .ok (.goto 23, 3) := by decide +kernel
theorem d_V_meetEntities_63 : decode b_V_meetEntities 63 = .ok (.aload_n 0, 1) := by decide +kernel
theorem d_V_meetEntities_64 : decode b_V_meetEntities 64 = .ok (.getfield 9, 3) := by decide +kernel
theorem d_V_meetEntities_67 : decode b_V_meetEntities 67 = .ok (.iload_n 1, 1) := by decide +kernel
theorem d_V_meetEntities_68 : decode b_V_meetEntities 68 = .ok (.iload_n 2, 1) := by decide +kernel
theorem d_V_meetEntities_69 : decode b_V_meetEntities 69 = .ok (.invokevirtual 90, 3) := by decide +kernel
theorem d_V_meetEntities_72 : decode b_V_meetEntities 72 = .ok (.aload_n 0, 1) := by decide +kernel
theorem d_V_meetEntities_73 : decode b_V_meetEntities 73 = .ok (.getfield 9, 3) := by decide +kernel
theorem d_V_meetEntities_76 : decode b_V_meetEntities 76 = .ok (.iload 4, 2) := by decide +kernel
theorem d_V_meetEntities_78 : decode b_V_meetEntities 78 = .ok (.iload_n 2, 1) := by decide +kernel
theorem d_V_meetEntities_79 : decode b_V_meetEntities 79 = .ok (.invokevirtual 93, 3) := by decide +kernel
theorem d_V_meetEntities_82 : decode b_V_meetEntities 82 = .ok (.isub, 1) := by decide +kernel
theorem d_V_meetEntities_83 : decode b_V_meetEntities 83 = .ok (.istore 5, 2) := by decide +kernel
theorem d_V_meetEntities_85 : decode b_V_meetEntities 85 = .ok (.aload_n 0, 1) := by decide +kernel
theorem d_V_meetEntities_86 : decode b_V_meetEntities 86 = .ok (.iload 4, 2) := by decide +kernel
theorem d_V_meetEntities_88 : decode b_V_meetEntities 88 = .ok (.iload 5, 2) := by decide +kernel
theorem d_V_meetEntities_90 : decode b_V_meetEntities 90 = .ok (.invokevirtual 103, 3) := by decide +kernel
theorem d_V_meetEntities_93 : decode b_V_meetEntities 93 = .ok (.iinc 4 1, 3) := by decide +kernel
theorem d_V_meetEntities_96 : decode b_V_meetEntities 96 = .ok (.goto (-93), 3) := by decide +kernel
theorem d_V_meetEntities_99 : decode b_V_meetEntities 99 = .ok (.return_, 1) := by decide +kernel
def f_V_meetEntities_93 (k3 : Sg → Int32 → Int32 → Int32 → Int32 → Option (Unit × Sg)) (g : Sg) (x1 : Int32) (x2 : Int32) (x3 : Int32) (x4 : Int32) : Option (Unit × Sg) := (k3 g (x1) (x2) (x3) (x4 + 1))
def f_V_meetEntities_83 (k3 : Sg → Int32 → Int32 → Int32 → Int32 → Option (Unit × Sg)) (g : Sg) (x1 : Int32) (x2 : Int32) (x3 : Int32) (x4 : Int32) (y0 : Int32) : Option (Unit × Sg) := (qs_bn (f_V_meet g (x4) (y0)) fun _ u18 => (f_V_meetEntities_93 k3 u18 (x1) (x2) (x3) (x4)))
def f_V_meetEntities_3  : Nat → Sg → Int32 → Int32 → Int32 → Int32 → Option (Unit × Sg)
  | 0, _, _, _, _, _ => none
  | n + 1, g, x1, x2, x3, x4 => (if 12 ≤ x4 then (some ((), g)) else (qs_bn (f_V_mayBlock g (x4) (x1)) fun r2 u3 => (if r2 = 0 then (f_V_meetEntities_93 (fun g x1 x2 x3 x4 => f_V_meetEntities_3  n g x1 x2 x3 x4) u3 (x1) (x2) (x3) (x4)) else (qs_bn (f_E_boxesOverlap u3 (x4) (x1) (1 - x2)) fun r5 u6 => (if r5 = 0 then (f_V_meetEntities_93 (fun g x1 x2 x3 x4 => f_V_meetEntities_3  n g x1 x2 x3 x4) u6 (x1) (x2) (x3) (x4)) else (if x3 = 0 then (qs_bn (f_E_low u6 (x1) (x2)) fun r9 u10 => (qs_bn (f_E_high u10 (x4) (x2)) fun r11 u12 => (f_V_meetEntities_83 (fun g x1 x2 x3 x4 => f_V_meetEntities_3  n g x1 x2 x3 x4) u12 (x1) (x2) (x3) (x4) (r9 - r11)))) else (qs_bn (f_E_low u6 (x4) (x2)) fun r13 u14 => (qs_bn (f_E_high u14 (x1) (x2)) fun r15 u16 => (f_V_meetEntities_83 (fun g x1 x2 x3 x4 => f_V_meetEntities_3  n g x1 x2 x3 x4) u16 (x1) (x2) (x3) (x4) (r13 - r15))))))))))
def f_V_meetEntities (g : Sg) (a1 : Int32) (a2 : Int32) (a3 : Int32) : Option (Unit × Sg) := (f_V_meetEntities_3 200 g (a1) (a2) (a3) (0))
set_option maxHeartbeats 4000000 in
set_option maxRecDepth 100000 in
theorem c_V_meetEntities (l : Launch) (dC : Nat → ClassId) (dI : Nat → Nat → Nat) (h : Nat → Nat) (c : Nat → ClassId) (sz : Nat) (g : Sg) (a1 : Int32) (a2 : Int32) (a3 : Int32) (u0 : Sg) (hF : f_V_meetEntities g a1 a2 a3 = some ((), u0)) : Met l y_V_meetEntities (qs_ws y_V_meetEntities b_V_meetEntities 6 none) ({ frames := 3, cells := 0, slots := 0, locals := 68 } : Room) (va_Pc ([.ref (h 5), .int a1, .int a2, .int a3] : List Value) (fun U => U.heap.size = sz ∧ va_P (dC, dI) vwCl (qs_W h c g) U.heap ∧ va_K (dC, dI) vwCl (qs_T c) U ∧ va_D (fun _ => True) (qs_W h c g) ∧ qs_N U)) (va_Qv (fun (u : Sg) => u = u0) (qs_at dC dI h c (va_A (qs_W h c g) sz)) (va_A (qs_W h c g) sz)) 0 0 (va_A (qs_W h c g) sz) := by
  refine Met.ofW (cc := b_V_meetEntities) (maxL := 6) (ret := none) (by decide +kernel) rfl ?_
  intro p e s m args below meth cd s₁ B hml hv
  obtain ⟨rfl, hsz, hP, hK, hD0, hNs⟩ := hv
  have hx := B.exec
  have hb := B.bytes
  have hr := B.returns
  have hts := atoms_spec (ws := (qs_ws y_V_meetEntities b_V_meetEntities 6 none)) B.pre
  have hg : ∀ w ∈ qs_gt, w.before _ s = true := fun w h => hts w (List.mem_cons_of_mem _ h)
  have hown : s.vm.findClass R_V = some m.cls := findClass_of_methodNamed B.named
  have hlocks := B.notSynchronized
  subst hsz
  have hD := hD0.self (sz := s.heap.size)
  generalize hAe : va_A (qs_W h c g) s.heap.size = A at hD ⊢
  have hA : ∀ q : Nat, s.heap.size ≤ q → A q := fun q h => by rw [← hAe]; exact Or.inr h
  have hS : va_S A s.heap s.heap [] := va_S.rf
  have kb_93 : ∀ (k3 : Sg → Int32 → Int32 → Int32 → Int32 → Option (Unit × Sg)), (∀ (g : Sg) (x1 : Int32) (x2 : Int32) (x3 : Int32) (x4 : Int32) (H : Heap) (locs : List Loc) (ls : Array Slot), va_P (dC, dI) vwCl (qs_W h c g) H → va_D A (qs_W h c g) → va_S A s.heap H locs → lv_has ls 6 [(0, .ref (h 5)), (1, .int (x1)), (2, .int (x2)), (3, .int (x3)), (4, .int (x4))] → k3 g x1 x2 x3 x4 = some ((), u0) → W p l e (headSpec (qs_ws y_V_meetEntities b_V_meetEntities 6 none) ({ frames := 3, cells := 0, slots := 0, locals := 68 } : Room)).room s m ([.ref (h 5), .int a1, .int a2, .int a3] : List Value).toArray below meth cd H locs 0 0 (MQ below (va_Qv (fun (u : Sg) => u = u0) (qs_at dC dI h c A) A) ([.ref (h 5), .int a1, .int a2, .int a3] : List Value).toArray s 0 0 A) (F0 m 3 ls [])) → ∀ (g : Sg) (x1 : Int32) (x2 : Int32) (x3 : Int32) (x4 : Int32) (H : Heap) (locs : List Loc) (ls : Array Slot), va_P (dC, dI) vwCl (qs_W h c g) H → va_D A (qs_W h c g) → va_S A s.heap H locs → lv_has ls 6 [(0, .ref (h 5)), (1, .int (x1)), (2, .int (x2)), (3, .int (x3)), (4, .int (x4))] → f_V_meetEntities_93 k3  g x1 x2 x3 x4 = some ((), u0) → W p l e (headSpec (qs_ws y_V_meetEntities b_V_meetEntities 6 none) ({ frames := 3, cells := 0, slots := 0, locals := 68 } : Room)).room s m ([.ref (h 5), .int a1, .int a2, .int a3] : List Value).toArray below meth cd H locs 0 0 (MQ below (va_Qv (fun (u : Sg) => u = u0) (qs_at dC dI h c A) A) ([.ref (h 5), .int a1, .int a2, .int a3] : List Value).toArray s 0 0 A) (F0 m 93 ls []) := by
    intro k3 hk3
    intro g x1 x2 x3 x4 H locs ls hP hD hS hl hF
    unfold f_V_meetEntities_93 at hF
    refine lv_iinc (v := x4 + 1) (lv' := [(4, .int (x4 + 1)), (0, .ref (h 5)), (1, .int (x1)), (2, .int (x2)), (3, .int (x3))]) hx hb d_V_meetEntities_93 hl (k := 4) rfl (by rfl) (by decide) rfl (fun ls hl => ?_)
    refine lv_goto (tgt := 3) hx hb d_V_meetEntities_96 (by decide) ?_
    exact hk3 g (x1) (x2) (x3) (x4 + 1) H locs ls hP hD hS (lv_sub hl [1, 2, 3, 4, 0] rfl) hF
  have kb_83 : ∀ (k3 : Sg → Int32 → Int32 → Int32 → Int32 → Option (Unit × Sg)), (∀ (g : Sg) (x1 : Int32) (x2 : Int32) (x3 : Int32) (x4 : Int32) (H : Heap) (locs : List Loc) (ls : Array Slot), va_P (dC, dI) vwCl (qs_W h c g) H → va_D A (qs_W h c g) → va_S A s.heap H locs → lv_has ls 6 [(0, .ref (h 5)), (1, .int (x1)), (2, .int (x2)), (3, .int (x3)), (4, .int (x4))] → k3 g x1 x2 x3 x4 = some ((), u0) → W p l e (headSpec (qs_ws y_V_meetEntities b_V_meetEntities 6 none) ({ frames := 3, cells := 0, slots := 0, locals := 68 } : Room)).room s m ([.ref (h 5), .int a1, .int a2, .int a3] : List Value).toArray below meth cd H locs 0 0 (MQ below (va_Qv (fun (u : Sg) => u = u0) (qs_at dC dI h c A) A) ([.ref (h 5), .int a1, .int a2, .int a3] : List Value).toArray s 0 0 A) (F0 m 3 ls [])) → ∀ (g : Sg) (x1 : Int32) (x2 : Int32) (x3 : Int32) (x4 : Int32) (y0 : Int32) (H : Heap) (locs : List Loc) (ls : Array Slot), va_P (dC, dI) vwCl (qs_W h c g) H → va_D A (qs_W h c g) → va_S A s.heap H locs → lv_has ls 6 [(0, .ref (h 5)), (1, .int (x1)), (2, .int (x2)), (3, .int (x3)), (4, .int (x4))] → f_V_meetEntities_83 k3  g x1 x2 x3 x4 y0 = some ((), u0) → W p l e (headSpec (qs_ws y_V_meetEntities b_V_meetEntities 6 none) ({ frames := 3, cells := 0, slots := 0, locals := 68 } : Room)).room s m ([.ref (h 5), .int a1, .int a2, .int a3] : List Value).toArray below meth cd H locs 0 0 (MQ below (va_Qv (fun (u : Sg) => u = u0) (qs_at dC dI h c A) A) ([.ref (h 5), .int a1, .int a2, .int a3] : List Value).toArray s 0 0 A) (F0 m 83 ls [.int (y0)]) := by
    intro k3 hk3
    intro g x1 x2 x3 x4 y0 H locs ls hP hD hS hl hF
    unfold f_V_meetEntities_83 at hF
    refine lv_istore (lv' := [(5, .int (y0)), (0, .ref (h 5)), (1, .int (x1)), (2, .int (x2)), (3, .int (x3)), (4, .int (x4))]) hx hb d_V_meetEntities_83 hl (by decide) rfl (fun ls hl => ?_)
    refine lv_aload_n hx hb d_V_meetEntities_85 rfl (lv_at hl 1 rfl) ?_
    refine lv_iload hx hb d_V_meetEntities_86 (lv_at hl 5 rfl) ?_
    refine lv_iload hx hb d_V_meetEntities_88 (lv_at hl 0 rfl) ?_
    obtain ⟨r17, u18, hX, hF⟩ := qs_bn_some hF
    refine qs_cv (Wd := qs_W h c) (isC := [0, 1, 2, 3, 4, 5, 6, 7, 8, 9, 10, 11, 12, 13, 14, 15, 16]) (va_runV (own := "QuakeServer$Mover") (C := "QuakeServer$Mover") (As := [.int (x4), .int (y0)]) (rest := []) ⟨hx, hb, hml, hown, hg⟩ (c_V_meet l dC dI h c H.size g (x4) (y0)  u18 hX) (cwV 2 hg (qs_gV t_561 t_563 tp_12 t_6 t_564) rfl rfl rfl (by decide +kernel) ⟨Nat.le_of_ble_eq_true rfl, Nat.le_of_ble_eq_true rfl⟩) ⟨qs_blind, va_recv hK hP (ci := 4) (q0 := 5) rfl rfl, fun U hU hW => ⟨rfl, by rw [hU], by rw [hU]; exact hP, va_K.moved hW.alike hK, hD.weaken (fun _ _ _ _ => trivial), hNs.warm hW⟩⟩ rfl rfl hl.1 rfl (lv_room (Nat.le_of_ble_eq_true rfl)) d_V_meetEntities_90 ⟨Nat.le_of_ble_eq_true rfl, Nat.le_of_ble_eq_true rfl⟩) rfl hP hD hS hA (fun H locs hP hD hS => ?_)
    exact kb_93 _ hk3 u18 (x1) (x2) (x3) (x4) H locs ls hP hD hS (lv_sub hl [1, 2, 3, 4, 5] rfl) hF
  have kb_3 : ∀ n : Nat, ∀ (g : Sg) (x1 : Int32) (x2 : Int32) (x3 : Int32) (x4 : Int32) (H : Heap) (locs : List Loc) (ls : Array Slot), va_P (dC, dI) vwCl (qs_W h c g) H → va_D A (qs_W h c g) → va_S A s.heap H locs → lv_has ls 6 [(0, .ref (h 5)), (1, .int (x1)), (2, .int (x2)), (3, .int (x3)), (4, .int (x4))] → f_V_meetEntities_3 n g x1 x2 x3 x4 = some ((), u0) → W p l e (headSpec (qs_ws y_V_meetEntities b_V_meetEntities 6 none) ({ frames := 3, cells := 0, slots := 0, locals := 68 } : Room)).room s m ([.ref (h 5), .int a1, .int a2, .int a3] : List Value).toArray below meth cd H locs 0 0 (MQ below (va_Qv (fun (u : Sg) => u = u0) (qs_at dC dI h c A) A) ([.ref (h 5), .int a1, .int a2, .int a3] : List Value).toArray s 0 0 A) (F0 m 3 ls []) := by
    intro n
    induction n with
    | zero =>
      intro g x1 x2 x3 x4 H locs ls hP hD hS hl hF
      exact nomatch (show (none : Option (Unit × Sg)) = some _ from hF)
    | succ n ih =>
      intro g x1 x2 x3 x4 H locs ls hP hD hS hl hF
      rw [f_V_meetEntities_3] at hF
      refine lv_iload hx hb d_V_meetEntities_3 (lv_at hl 4 rfl) ?_
      refine lv_bipush (v := 12) hx hb d_V_meetEntities_5 (by decide) ?_
      refine lv_icmp_ge (tgt := 99) hx hb d_V_meetEntities_7 (by decide) (fun c1 => ?_) (fun c1 => ?_)
      · have hF := qs_pos c1 hF
        obtain ⟨h8, h9⟩ := qs_ret hF
        exact W.vret hx hb hr (fun t ht hW => ⟨⟨g, rfl, h9, by rw [ht]; exact hP, va_K.moved hW.alike hK, hD⟩, hS.F ht⟩) hS.2.2 d_V_meetEntities_99
      · have hF := qs_neg c1 hF
        refine lv_aload_n hx hb d_V_meetEntities_10 rfl (lv_at hl 0 rfl) ?_
        refine lv_iload hx hb d_V_meetEntities_11 (lv_at hl 4 rfl) ?_
        refine lv_iload_n hx hb d_V_meetEntities_13 rfl (lv_at hl 1 rfl) ?_
        obtain ⟨r2, u3, hX, hF⟩ := qs_bn_some hF
        refine qs_ci (Wd := qs_W h c) (isC := [0, 1, 2, 3, 4, 5, 6, 7, 8, 9, 10, 11, 12, 13, 14, 15, 16]) (va_runV (own := "QuakeServer$Mover") (C := "QuakeServer$Mover") (As := [.int (x4), .int (x1)]) (rest := []) ⟨hx, hb, hml, hown, hg⟩ (c_V_mayBlock l dC dI h c H.size g (x4) (x1) r2 u3 hX) (cwV 2 hg (qs_gV t_569 t_571 tp_14 t_6 t_572) rfl rfl rfl (by decide +kernel) ⟨Nat.le_of_ble_eq_true rfl, Nat.le_of_ble_eq_true rfl⟩) ⟨qs_blind, va_recv hK hP (ci := 4) (q0 := 5) rfl rfl, fun U hU hW => ⟨rfl, by rw [hU], by rw [hU]; exact hP, va_K.moved hW.alike hK, hD.weaken (fun _ _ _ _ => trivial), hNs.warm hW⟩⟩ rfl rfl hl.1 rfl (lv_room (Nat.le_of_ble_eq_true rfl)) d_V_meetEntities_14 ⟨Nat.le_of_ble_eq_true rfl, Nat.le_of_ble_eq_true rfl⟩) rfl hP hD hS hA (fun H locs hP hD hS => ?_)
        refine lv_if_eq (tgt := 93) hx hb d_V_meetEntities_17 (by decide) (fun c4 => ?_) (fun c4 => ?_)
        · have hF := qs_pos c4 hF
          exact kb_93 _ ih u3 (x1) (x2) (x3) (x4) H locs ls hP hD hS (lv_sub hl [0, 1, 2, 3, 4] rfl) hF
        · have hF := qs_neg c4 hF
          refine lv_aload_n hx hb d_V_meetEntities_20 rfl (lv_at hl 0 rfl) ?_
          refine va_get (D := (dC, dI)) (ci := 4) (v := .ref (h 1)) (C := R_V) (T := T_V) (N := 6) hx hb hg in_V hown hK hP 5 rfl rfl 0 (by decide) (hg _ t_123) (fun _ h9 => h9) rfl d_V_meetEntities_21 ?_
          refine lv_iload hx hb d_V_meetEntities_24 (lv_at hl 4 rfl) ?_
          refine lv_iload_n hx hb d_V_meetEntities_26 rfl (lv_at hl 1 rfl) ?_
          refine lv_iconst (v := 1) hx hb d_V_meetEntities_27 (by decide) ?_
          refine lv_iload_n hx hb d_V_meetEntities_28 rfl (lv_at hl 2 rfl) ?_
          refine lv_isub hx hb d_V_meetEntities_29 ?_
          obtain ⟨r5, u6, hX, hF⟩ := qs_bn_some hF
          refine qs_ci (Wd := qs_W h c) (isC := [0, 1, 2, 3, 4, 5, 6, 7, 8, 9, 10, 11, 12, 13, 14, 15, 16]) (va_runV (own := "QuakeServer$Mover") (C := "QuakeServer$Entities") (As := [.int (x4), .int (x1), .int (1 - x2)]) (rest := []) ⟨hx, hb, hml, hown, hg⟩ (c_E_boxesOverlap l dC dI h c H.size u3 (x4) (x1) (1 - x2) r5 u6 hX) (cwV 3 hg (qs_gV t_573 t_574 t_575 t_2 t_576) rfl rfl rfl (by decide +kernel) ⟨Nat.le_of_ble_eq_true rfl, Nat.le_of_ble_eq_true rfl⟩) ⟨qs_blind, va_recv hK hP (ci := 0) (q0 := 1) rfl rfl, fun U hU hW => ⟨rfl, by rw [hU], by rw [hU]; exact hP, va_K.moved hW.alike hK, hD.weaken (fun _ _ _ _ => trivial), hNs.warm hW⟩⟩ rfl rfl hl.1 rfl (lv_room (Nat.le_of_ble_eq_true rfl)) d_V_meetEntities_30 ⟨Nat.le_of_ble_eq_true rfl, Nat.le_of_ble_eq_true rfl⟩) rfl hP hD hS hA (fun H locs hP hD hS => ?_)
          refine lv_if_eq (tgt := 93) hx hb d_V_meetEntities_33 (by decide) (fun c7 => ?_) (fun c7 => ?_)
          · have hF := qs_pos c7 hF
            exact kb_93 _ ih u6 (x1) (x2) (x3) (x4) H locs ls hP hD hS (lv_sub hl [0, 1, 2, 3, 4] rfl) hF
          · have hF := qs_neg c7 hF
            refine lv_iload_n hx hb d_V_meetEntities_36 rfl (lv_at hl 3 rfl) ?_
            refine lv_if_eq (tgt := 63) hx hb d_V_meetEntities_37 (by decide) (fun c8 => ?_) (fun c8 => ?_)
            · have hF := qs_pos c8 hF
              refine lv_aload_n hx hb d_V_meetEntities_63 rfl (lv_at hl 0 rfl) ?_
              refine va_get (D := (dC, dI)) (ci := 4) (v := .ref (h 1)) (C := R_V) (T := T_V) (N := 6) hx hb hg in_V hown hK hP 5 rfl rfl 0 (by decide) (hg _ t_123) (fun _ h9 => h9) rfl d_V_meetEntities_64 ?_
              refine lv_iload_n hx hb d_V_meetEntities_67 rfl (lv_at hl 1 rfl) ?_
              refine lv_iload_n hx hb d_V_meetEntities_68 rfl (lv_at hl 2 rfl) ?_
              obtain ⟨r9, u10, hX, hF⟩ := qs_bn_some hF
              refine qs_ci (Wd := qs_W h c) (isC := [0, 1, 2, 3, 4, 5, 6, 7, 8, 9, 10, 11, 12, 13, 14, 15, 16]) (va_runV (own := "QuakeServer$Mover") (C := "QuakeServer$Entities") (As := [.int (x1), .int (x2)]) (rest := []) ⟨hx, hb, hml, hown, hg⟩ (c_E_low l dC dI h c H.size u6 (x1) (x2) r9 u10 hX) (cwV 2 hg (qs_gV t_535 t_536 t_537 t_2 t_538) rfl rfl rfl (by decide +kernel) ⟨Nat.le_of_ble_eq_true rfl, Nat.le_of_ble_eq_true rfl⟩) ⟨qs_blind, va_recv hK hP (ci := 0) (q0 := 1) rfl rfl, fun U hU hW => ⟨rfl, by rw [hU], by rw [hU]; exact hP, va_K.moved hW.alike hK, hD.weaken (fun _ _ _ _ => trivial), hNs.warm hW⟩⟩ rfl rfl hl.1 rfl (lv_room (Nat.le_of_ble_eq_true rfl)) d_V_meetEntities_69 ⟨Nat.le_of_ble_eq_true rfl, Nat.le_of_ble_eq_true rfl⟩) rfl hP hD hS hA (fun H locs hP hD hS => ?_)
              refine lv_aload_n hx hb d_V_meetEntities_72 rfl (lv_at hl 0 rfl) ?_
              refine va_get (D := (dC, dI)) (ci := 4) (v := .ref (h 1)) (C := R_V) (T := T_V) (N := 6) hx hb hg in_V hown hK hP 5 rfl rfl 0 (by decide) (hg _ t_123) (fun _ h9 => h9) rfl d_V_meetEntities_73 ?_
              refine lv_iload hx hb d_V_meetEntities_76 (lv_at hl 4 rfl) ?_
              refine lv_iload_n hx hb d_V_meetEntities_78 rfl (lv_at hl 2 rfl) ?_
              obtain ⟨r11, u12, hX, hF⟩ := qs_bn_some hF
              refine qs_ci (Wd := qs_W h c) (isC := [0, 1, 2, 3, 4, 5, 6, 7, 8, 9, 10, 11, 12, 13, 14, 15, 16]) (va_runV (own := "QuakeServer$Mover") (C := "QuakeServer$Entities") (As := [.int (x4), .int (x2)]) (rest := [.int (r9)]) ⟨hx, hb, hml, hown, hg⟩ (c_E_high l dC dI h c H.size u10 (x4) (x2) r11 u12 hX) (cwV 2 hg (qs_gV t_549 t_550 t_551 t_2 t_552) rfl rfl rfl (by decide +kernel) ⟨Nat.le_of_ble_eq_true rfl, Nat.le_of_ble_eq_true rfl⟩) ⟨qs_blind, va_recv hK hP (ci := 0) (q0 := 1) rfl rfl, fun U hU hW => ⟨rfl, by rw [hU], by rw [hU]; exact hP, va_K.moved hW.alike hK, hD.weaken (fun _ _ _ _ => trivial), hNs.warm hW⟩⟩ rfl rfl hl.1 rfl (lv_room (Nat.le_of_ble_eq_true rfl)) d_V_meetEntities_79 ⟨Nat.le_of_ble_eq_true rfl, Nat.le_of_ble_eq_true rfl⟩) rfl hP hD hS hA (fun H locs hP hD hS => ?_)
              refine lv_isub hx hb d_V_meetEntities_82 ?_
              exact kb_83 _ ih u12 (x1) (x2) (x3) (x4) (r9 - r11) H locs ls hP hD hS (lv_sub hl [0, 1, 2, 3, 4] rfl) hF
            · have hF := qs_neg c8 hF
              refine lv_aload_n hx hb d_V_meetEntities_40 rfl (lv_at hl 0 rfl) ?_
              refine va_get (D := (dC, dI)) (ci := 4) (v := .ref (h 1)) (C := R_V) (T := T_V) (N := 6) hx hb hg in_V hown hK hP 5 rfl rfl 0 (by decide) (hg _ t_123) (fun _ h9 => h9) rfl d_V_meetEntities_41 ?_
              refine lv_iload hx hb d_V_meetEntities_44 (lv_at hl 4 rfl) ?_
              refine lv_iload_n hx hb d_V_meetEntities_46 rfl (lv_at hl 2 rfl) ?_
              obtain ⟨r13, u14, hX, hF⟩ := qs_bn_some hF
              refine qs_ci (Wd := qs_W h c) (isC := [0, 1, 2, 3, 4, 5, 6, 7, 8, 9, 10, 11, 12, 13, 14, 15, 16]) (va_runV (own := "QuakeServer$Mover") (C := "QuakeServer$Entities") (As := [.int (x4), .int (x2)]) (rest := []) ⟨hx, hb, hml, hown, hg⟩ (c_E_low l dC dI h c H.size u6 (x4) (x2) r13 u14 hX) (cwV 2 hg (qs_gV t_535 t_536 t_537 t_2 t_538) rfl rfl rfl (by decide +kernel) ⟨Nat.le_of_ble_eq_true rfl, Nat.le_of_ble_eq_true rfl⟩) ⟨qs_blind, va_recv hK hP (ci := 0) (q0 := 1) rfl rfl, fun U hU hW => ⟨rfl, by rw [hU], by rw [hU]; exact hP, va_K.moved hW.alike hK, hD.weaken (fun _ _ _ _ => trivial), hNs.warm hW⟩⟩ rfl rfl hl.1 rfl (lv_room (Nat.le_of_ble_eq_true rfl)) d_V_meetEntities_47 ⟨Nat.le_of_ble_eq_true rfl, Nat.le_of_ble_eq_true rfl⟩) rfl hP hD hS hA (fun H locs hP hD hS => ?_)
              refine lv_aload_n hx hb d_V_meetEntities_50 rfl (lv_at hl 0 rfl) ?_
              refine va_get (D := (dC, dI)) (ci := 4) (v := .ref (h 1)) (C := R_V) (T := T_V) (N := 6) hx hb hg in_V hown hK hP 5 rfl rfl 0 (by decide) (hg _ t_123) (fun _ h9 => h9) rfl d_V_meetEntities_51 ?_
              refine lv_iload_n hx hb d_V_meetEntities_54 rfl (lv_at hl 1 rfl) ?_
              refine lv_iload_n hx hb d_V_meetEntities_55 rfl (lv_at hl 2 rfl) ?_
              obtain ⟨r15, u16, hX, hF⟩ := qs_bn_some hF
              refine qs_ci (Wd := qs_W h c) (isC := [0, 1, 2, 3, 4, 5, 6, 7, 8, 9, 10, 11, 12, 13, 14, 15, 16]) (va_runV (own := "QuakeServer$Mover") (C := "QuakeServer$Entities") (As := [.int (x1), .int (x2)]) (rest := [.int (r13)]) ⟨hx, hb, hml, hown, hg⟩ (c_E_high l dC dI h c H.size u14 (x1) (x2) r15 u16 hX) (cwV 2 hg (qs_gV t_549 t_550 t_551 t_2 t_552) rfl rfl rfl (by decide +kernel) ⟨Nat.le_of_ble_eq_true rfl, Nat.le_of_ble_eq_true rfl⟩) ⟨qs_blind, va_recv hK hP (ci := 0) (q0 := 1) rfl rfl, fun U hU hW => ⟨rfl, by rw [hU], by rw [hU]; exact hP, va_K.moved hW.alike hK, hD.weaken (fun _ _ _ _ => trivial), hNs.warm hW⟩⟩ rfl rfl hl.1 rfl (lv_room (Nat.le_of_ble_eq_true rfl)) d_V_meetEntities_56 ⟨Nat.le_of_ble_eq_true rfl, Nat.le_of_ble_eq_true rfl⟩) rfl hP hD hS hA (fun H locs hP hD hS => ?_)
              refine lv_isub hx hb d_V_meetEntities_59 ?_
              refine lv_goto (tgt := 83) hx hb d_V_meetEntities_60 (by decide) ?_
              exact kb_83 _ ih u16 (x1) (x2) (x3) (x4) (r13 - r15) H locs ls hP hD hS (lv_sub hl [0, 1, 2, 3, 4] rfl) hF
  have hl := lv_entry ([.ref (h 5), .int a1, .int a2, .int a3] : List Value) (n := 6) (Nat.le_of_ble_eq_true rfl)
  rw [lg_entry_eq]
  generalize (lg_sl ([.ref (h 5), .int a1, .int a2, .int a3] : List Value) ++ List.replicate (6 - (lg_sl ([.ref (h 5), .int a1, .int a2, .int a3] : List Value)).length) Slot.unset).toArray = ls at hl ⊢
  have hl : lv_has ls 6 [(0, .ref (h 5)), (1, .int (a1)), (2, .int (a2)), (3, .int (a3))] := hl
  unfold f_V_meetEntities at hF
  obtain ⟨H, hHe⟩ : ∃ H, H = s.heap := ⟨_, rfl⟩
  obtain ⟨locs, hLe⟩ : ∃ L : List Loc, L = [] := ⟨_, rfl⟩
  rw [← hHe] at hP ⊢
  rw [← hLe]
  have hS : va_S A s.heap H locs := by rw [hHe, hLe]; exact hS
  refine lv_iconst (v := 0) hx hb d_V_meetEntities_0 (by decide) ?_
  refine lv_istore (lv' := [(4, .int (0)), (0, .ref (h 5)), (1, .int (a1)), (2, .int (a2)), (3, .int (a3))]) hx hb d_V_meetEntities_1 hl (by decide) rfl (fun ls hl => ?_)
  exact kb_3 200 g (a1) (a2) (a3) (0) H locs ls hP hD hS (lv_sub hl [1, 2, 3, 4, 0] rfl) hF
end
section
theorem d_V_go_0 : decode b_V_go 0 = .ok (.aload_n 0, 1) := by decide +kernel
theorem d_V_go_1 : decode b_V_go 1 = .ok (.getfield 9, 3) := by decide +kernel
theorem d_V_go_4 : decode b_V_go 4 = .ok (.iload_n 1, 1) := by decide +kernel
theorem d_V_go_5 : decode b_V_go 5 = .ok (.iconst 2, 1) := by decide +kernel
theorem d_V_go_6 : decode b_V_go 6 = .ok (.iload_n 2, 1) := by decide +kernel
theorem d_V_go_7 : decode b_V_go 7 = .ok (.iadd, 1) := by decide +kernel
theorem d_V_go_8 : decode b_V_go 8 = .ok (.invokevirtual 29, 3) := by decide +kernel
theorem d_V_go_11 : decode b_V_go 11 = .ok (.istore_n 3, 1) := by decide +kernel
theorem d_V_go_12 : decode b_V_go 12 = .ok (.iload_n 3, 1) := by decide +kernel
theorem d_V_go_13 : decode b_V_go 13 = .ok (.bipush 8, 2) := by decide +kernel
theorem d_V_go_15 : decode b_V_go 15 = .ok (.invokestatic 68, 3) := by decide +kernel
theorem d_V_go_18 : decode b_V_go 18 = .ok (.istore 4, 2) := by decide +kernel
theorem d_V_go_20 : decode b_V_go 20 = .ok (.iload 4, 2) := by decide +kernel
theorem d_V_go_22 : decode b_V_go 22 = .ok (.ifCond .ne 6, 3) := by decide +kernel
theorem d_V_go_25 : decode b_V_go 25 = .ok (.bipush (-2), 2) := by decide +kernel
theorem d_V_go_27 : decode b_V_go 27 = .ok (.ireturn, 1) := by decide +kernel
theorem d_V_go_28 : decode b_V_go 28 = .ok (.aload_n 0, 1) := by decide +kernel
theorem d_V_go_29 : decode b_V_go 29 = .ok (.iload 4, 2) := by decide +kernel
theorem d_V_go_31 : decode b_V_go 31 = .ok (.invokestatic 73, 3) := by decide +kernel
theorem d_V_go_34 : decode b_V_go 34 = .ok (.putfield 77, 3) := by decide +kernel
theorem d_V_go_37 : decode b_V_go 37 = .ok (.aload_n 0, 1) := by decide +kernel
theorem d_V_go_38 : decode b_V_go 38 = .ok (.bipush (-2), 2) := by decide +kernel
theorem d_V_go_40 : decode b_V_go 40 = .ok (.putfield 80, 3) := by decide +kernel
theorem d_V_go_43 : decode b_V_go 43 = .ok (.aload_n 0, 1) := by decide +kernel
theorem d_V_go_44 : decode b_V_go 44 = .ok (.iload_n 1, 1) := by decide +kernel
theorem d_V_go_45 : decode b_V_go 45 = .ok (.iload_n 2, 1) := by decide +kernel
theorem d_V_go_46 : decode b_V_go 46 = .ok (.iload 4, 2) := by decide +kernel
theorem d_V_go_48 : decode b_V_go 48 = .ok (.ifCond .le 7, 3) := by decide +kernel
theorem d_V_go_51 : decode b_V_go 51 = .ok (.iconst 1, 1) := by decide +kernel
theorem d_V_go_52 : decode b_V_go 52 = .ok (.goto 4, 3) := by decide +kernel
theorem d_V_go_55 : decode b_V_go 55 = .ok (.iconst 0, 1) := by decide +kernel
theorem d_V_go_56 : decode b_V_go 56 = .ok (.invokevirtual 83, 3) := by decide +kernel
theorem d_V_go_59 : decode b_V_go 59 = .ok (.aload_n 0, 1) := by decide +kernel
theorem d_V_go_60 : decode b_V_go 60 = .ok (.iload_n 1, 1) := by decide +kernel
theorem d_V_go_61 : decode b_V_go 61 = .ok (.iload_n 2, 1) := by decide +kernel
theorem d_V_go_62 : decode b_V_go 62 = .ok (.iload 4, 2) := by decide +kernel
theorem d_V_go_64 : decode b_V_go 64 = .ok (.ifCond .le 7, 3) := by decide +kernel
theorem d_V_go_67 : decode b_V_go 67 = .ok (.iconst 1, 1) := by decide +kernel
theorem d_V_go_68 : decode b_V_go 68 = .ok (.goto 4, 3) := by decide +kernel
theorem d_V_go_71 : decode b_V_go 71 = .ok (.iconst 0, 1) := by decide +kernel
theorem d_V_go_72 : decode b_V_go 72 = .ok (.invokevirtual 87, 3) := by decide +kernel
theorem d_V_go_75 : decode b_V_go 75 = .ok (.aload_n 0, 1) := by decide +kernel
theorem d_V_go_76 : decode b_V_go 76 = .ok (.getfield 9, 3) := by decide +kernel
theorem d_V_go_79 : decode b_V_go 79 = .ok (.iload_n 1, 1) := by decide +kernel
theorem d_V_go_80 : decode b_V_go 80 = .ok (.iload_n 2, 1) := by decide +kernel
theorem d_V_go_81 : decode b_V_go 81 = .ok (.invokevirtual 29, 3) := by decide +kernel
theorem d_V_go_84 : decode b_V_go 84 = .ok (.iload 4, 2) := by decide +kernel
theorem d_V_go_86 : decode b_V_go 86 = .ok (.ifCond .le 10, 3) := by decide +kernel
theorem d_V_go_89 : decode b_V_go 89 = .ok (.aload_n 0, 1) := by decide +kernel
theorem d_V_go_90 : decode b_V_go 90 = .ok (.getfield 77, 3) := by decide +kernel
theorem d_V_go_93 : decode b_V_go 93 = .ok (.goto 8, 3) := by decide +kernel
theorem d_V_go_96 : decode b_V_go 96 = .ok (.aload_n 0, 1) := by decide +kernel
theorem d_V_go_97 : decode b_V_go 97 = .ok (.getfield 77, 3) := by decide +kernel
theorem d_V_go_100 : decode b_V_go 100 = .ok (.ineg, 1) := by decide +kernel
theorem d_V_go_101 : decode b_V_go 101 = .ok (.iadd, 1) := by decide +kernel
theorem d_V_go_102 : decode b_V_go 102 = .ok (.istore 5, 2) := by decide +kernel
theorem d_V_go_104 : decode b_V_go 104 = .ok (.aload_n 0, 1) := by decide +kernel
theorem d_V_go_105 : decode b_V_go 105 = .ok (.getfield 9, 3) := by decide +kernel
theorem d_V_go_108 : decode b_V_go 108 = .ok (.iload_n 1, 1) := by decide +kernel
theorem d_V_go_109 : decode b_V_go 109 = .ok (.iload_n 2, 1) := by decide +kernel
theorem d_V_go_110 : decode b_V_go 110 = .ok (.iload 5, 2) := by decide +kernel
theorem d_V_go_112 : decode b_V_go 112 = .ok (.i2l, 1) := by decide +kernel
theorem d_V_go_113 : decode b_V_go 113 = .ok (.invokestatic 32, 3) := by decide +kernel
theorem d_V_go_116 : decode b_V_go 116 = .ok (.invokevirtual 36, 3) := by decide +kernel
theorem d_V_go_119 : decode b_V_go 119 = .ok (.aload_n 0, 1) := by decide +kernel
theorem d_V_go_120 : decode b_V_go 120 = .ok (.getfield 80, 3) := by decide +kernel
theorem d_V_go_123 : decode b_V_go 123 = .ok (.bipush (-2), 2) := by decide +kernel
theorem d_V_go_125 : decode b_V_go 125 = .ok (.if_icmp .eq 54, 3) := by decide +kernel
theorem d_V_go_128 : decode b_V_go 128 = .ok (.aload_n 0, 1) := by decide +kernel
theorem d_V_go_129 : decode b_V_go 129 = .ok (.getfield 9, 3) := by decide +kernel
theorem d_V_go_132 : decode b_V_go 132 = .ok (.iload_n 1, 1) := by decide +kernel
theorem d_V_go_133 : decode b_V_go 133 = .ok (.bipush 6, 2) := by decide +kernel
theorem d_V_go_135 : decode b_V_go 135 = .ok (.invokevirtual 23, 3) := by decide +kernel
theorem d_V_go_138 : decode b_V_go 138 = .ok (.iconst 3, 1) := by decide +kernel
theorem d_V_go_139 : decode b_V_go 139 = .ok (.if_icmp .ne 7, 3) := by decide +kernel
theorem d_V_go_142 : decode b_V_go 142 = .ok (.iconst 1, 1) := by decide +kernel
theorem d_V_go_143 : decode b_V_go 143 = .ok (.goto 4, 3) := by decide +kernel
theorem d_V_go_146 : decode b_V_go 146 = .ok (.iconst 0, 1) := by decide +kernel
theorem d_V_go_147 : decode b_V_go 147 = .ok (.istore 6, 2) := by decide +kernel
theorem d_V_go_149 : decode b_V_go 149 = .ok (.aload_n 0, 1) := by decide +kernel
theorem d_V_go_150 : decode b_V_go 150 = .ok (.getfield 9, 3) := by decide +kernel
theorem d_V_go_153 : decode b_V_go 153 = .ok (.iload_n 1, 1) := by decide +kernel
theorem d_V_go_154 : decode b_V_go 154 = .ok (.iconst 2, 1) := by decide +kernel
theorem d_V_go_155 : decode b_V_go 155 = .ok (.iload_n 2, 1) := by decide +kernel
theorem d_V_go_156 : decode b_V_go 156 = .ok (.iadd, 1) := by decide +kernel
theorem d_V_go_157 : decode b_V_go 157 = .ok (.iload 6, 2) := by decide +kernel
theorem d_V_go_159 : decode b_V_go 159 = .ok (.ifCond .eq 16, 3) := by decide +kernel
theorem d_V_go_162 : decode b_V_go 162 = .ok (.iload_n 3, 1) := by decide +kernel
theorem d_V_go_163 : decode b_V_go 163 = .ok (.ineg, 1) := by decide +kernel
theorem d_V_go_164 : decode b_V_go 164 = .ok (.iconst 2, 1) := by decide +kernel
theorem d_V_go_165 : decode b_V_go 165 = .ok (.invokestatic 68, 3) := by decide +kernel
theorem d_V_go_168 : decode b_V_go 168 = .ok (.i2l, 1) := by decide +kernel
theorem d_V_go_169 : decode b_V_go 169 = .ok (.invokestatic 32, 3) := by decide +kernel
theorem d_V_go_172 : decode b_V_go 172 = .ok (.goto 4, 3) := by decide +kernel
theorem d_V_go_175 : decode b_V_go 175 = .ok (.iconst 0, 1) := by decide +kernel
theorem d_V_go_176 : decode b_V_go 176 = .ok (.invokevirtual 36, 3) := by decide +kernel
theorem d_V_go_179 : decode b_V_go 179 = .ok (.aload_n 0, 1) := by decide +kernel
theorem d_V_go_180 : decode b_V_go 180 = .ok (.getfield 80, 3) := by decide +kernel
theorem d_V_go_183 : decode b_V_go 183 = .ok (.ireturn, 1) := by decide +kernel
def f_V_go_176  (g : Sg) (y1 : Int32) (y2 : Int32) (y3 : Int32) : Option (Int32 × Sg) := (qs_bn (f_E_put g (y1) (y2) (y3)) fun _ u27 => (some (u27 29 0, u27)))
def f_V_go_147  (g : Sg) (x1 : Int32) (x2 : Int32) (x3 : Int32) (y0 : Int32) : Option (Int32 × Sg) := (if y0 = 0 then (f_V_go_176 g (x1) (2 + x2) (0)) else (qs_pb (f_J_floorDiv_III (-x3) (2)) fun r24 => (qs_pb (f_Q_inRange (r24.toInt64)) fun r25 => (f_V_go_176 g (x1) (2 + x2) (r25)))))
def f_V_go_101  (g : Sg) (x1 : Int32) (x2 : Int32) (x3 : Int32) (y0 : Int32) (y1 : Int32) : Option (Int32 × Sg) := (qs_pb (f_Q_inRange ((y0 + y1).toInt64)) fun r16 => (qs_bn (f_E_put g (x1) (x2) (r16)) fun _ u18 => (if (u18 29 0) = (-2) then (some (u18 29 0, u18)) else (qs_bn (f_E_wholeField u18 (x1) (6)) fun r20 u21 => (if r20 = 3 then (f_V_go_147 u21 (x1) (x2) (x3) (1)) else (f_V_go_147 u21 (x1) (x2) (x3) (0)))))))
def f_V_go_72  (g : Sg) (x1 : Int32) (x2 : Int32) (x3 : Int32) (x4 : Int32) (y1 : Int32) (y2 : Int32) (y3 : Int32) : Option (Int32 × Sg) := (qs_bn (f_V_meetEntities g (y1) (y2) (y3)) fun _ u12 => (qs_bn (f_E_field u12 (x1) (x2)) fun r13 u14 => (if x4 ≤ 0 then (f_V_go_101 u14 (x1) (x2) (x3) (r13) (-(u14 28 0))) else (f_V_go_101 u14 (x1) (x2) (x3) (r13) (u14 28 0)))))
def f_V_go_56  (g : Sg) (x1 : Int32) (x2 : Int32) (x3 : Int32) (x4 : Int32) (y1 : Int32) (y2 : Int32) (y3 : Int32) : Option (Int32 × Sg) := (qs_bn (f_V_meetWalls g (y1) (y2) (y3)) fun _ u9 => (if x4 ≤ 0 then (f_V_go_72 u9 (x1) (x2) (x3) (x4) (x1) (x2) (0)) else (f_V_go_72 u9 (x1) (x2) (x3) (x4) (x1) (x2) (1))))
def f_V_go (g : Sg) (a1 : Int32) (a2 : Int32) : Option (Int32 × Sg) := (qs_bn (f_E_field g (a1) (2 + a2)) fun r1 u2 => (qs_pb (f_J_floorDiv_III (r1) (8)) fun r3 => (if r3 = 0 then (some ((-2), u2)) else (qs_st (qs_i u2 28 (if 0 ≤ r3 then r3 else 0 - r3)) fun u5 => (qs_st (qs_i u5 29 ((-2))) fun u6 => (if r3 ≤ 0 then (f_V_go_56 u6 (a1) (a2) (r1) (r3) (a1) (a2) (0)) else (f_V_go_56 u6 (a1) (a2) (r1) (r3) (a1) (a2) (1))))))))
set_option maxHeartbeats 4000000 in
set_option maxRecDepth 100000 in
theorem c_V_go (l : Launch) (dC : Nat → ClassId) (dI : Nat → Nat → Nat) (h : Nat → Nat) (c : Nat → ClassId) (sz : Nat) (g : Sg) (a1 : Int32) (a2 : Int32) (r0 : Int32) (u0 : Sg) (hF : f_V_go g a1 a2 = some (r0, u0)) : Met l y_V_go (qs_ws y_V_go b_V_go 7 (some .int)) ({ frames := 4, cells := 0, slots := 0, locals := 94 } : Room) (va_Pc ([.ref (h 5), .int a1, .int a2] : List Value) (fun U => U.heap.size = sz ∧ va_P (dC, dI) vwCl (qs_W h c g) U.heap ∧ va_K (dC, dI) vwCl (qs_T c) U ∧ va_D (fun _ => True) (qs_W h c g) ∧ qs_N U)) (va_Qi (fun (r : Int32) (u : Sg) => r = r0 ∧ u = u0) (qs_at dC dI h c (va_A (qs_W h c g) sz)) (va_A (qs_W h c g) sz)) 0 0 (va_A (qs_W h c g) sz) := by
  refine Met.ofW (cc := b_V_go) (maxL := 7) (ret := (some .int)) (by decide +kernel) rfl ?_
  intro p e s m args below meth cd s₁ B hml hv
  obtain ⟨rfl, hsz, hP, hK, hD0, hNs⟩ := hv
  have hx := B.exec
  have hb := B.bytes
  have hr := B.returns
  have hts := atoms_spec (ws := (qs_ws y_V_go b_V_go 7 (some .int))) B.pre
  have hg : ∀ w ∈ qs_gt, w.before _ s = true := fun w h => hts w (List.mem_cons_of_mem _ h)
  have hown : s.vm.findClass R_V = some m.cls := findClass_of_methodNamed B.named
  have hlocks := B.notSynchronized
  subst hsz
  have hD := hD0.self (sz := s.heap.size)
  generalize hAe : va_A (qs_W h c g) s.heap.size = A at hD ⊢
  have hA : ∀ q : Nat, s.heap.size ≤ q → A q := fun q h => by rw [← hAe]; exact Or.inr h
  have hS : va_S A s.heap s.heap [] := va_S.rf
  have kb_176 : ∀ (g : Sg) (y1 : Int32) (y2 : Int32) (y3 : Int32) (H : Heap) (locs : List Loc) (ls : Array Slot), va_P (dC, dI) vwCl (qs_W h c g) H → va_D A (qs_W h c g) → va_S A s.heap H locs → lv_has ls 7 [(0, .ref (h 5))] → f_V_go_176  g y1 y2 y3 = some (r0, u0) → W p l e (headSpec (qs_ws y_V_go b_V_go 7 (some .int)) ({ frames := 4, cells := 0, slots := 0, locals := 94 } : Room)).room s m ([.ref (h 5), .int a1, .int a2] : List Value).toArray below meth cd H locs 0 0 (MQ below (va_Qi (fun (r : Int32) (u : Sg) => r = r0 ∧ u = u0) (qs_at dC dI h c A) A) ([.ref (h 5), .int a1, .int a2] : List Value).toArray s 0 0 A) (F0 m 176 ls [.int (y3), .int (y2), .int (y1), .ref (h 1)]) := by
    intro g y1 y2 y3 H locs ls hP hD hS hl hF
    unfold f_V_go_176 at hF
    obtain ⟨r26, u27, hX, hF⟩ := qs_bn_some hF
    refine qs_cv (Wd := qs_W h c) (isC := [0, 1, 2, 3, 4, 5, 6, 7, 8, 9, 10, 11, 12, 13, 14, 15, 16]) (va_runV (own := "QuakeServer$Mover") (C := "QuakeServer$Entities") (As := [.int (y1), .int (y2), .int (y3)]) (rest := []) ⟨hx, hb, hml, hown, hg⟩ (c_E_put l dC dI h c H.size g (y1) (y2) (y3)  u27 hX) (cwV 3 hg (qs_gV t_516 t_355 t_356 t_2 t_357) rfl rfl rfl (by decide +kernel) ⟨Nat.le_of_ble_eq_true rfl, Nat.le_of_ble_eq_true rfl⟩) ⟨qs_blind, va_recv hK hP (ci := 0) (q0 := 1) rfl rfl, fun U hU hW => ⟨rfl, by rw [hU], by rw [hU]; exact hP, va_K.moved hW.alike hK, hD.weaken (fun _ _ _ _ => trivial), hNs.warm hW⟩⟩ rfl rfl hl.1 rfl (lv_room (Nat.le_of_ble_eq_true rfl)) d_V_go_176 ⟨Nat.le_of_ble_eq_true rfl, Nat.le_of_ble_eq_true rfl⟩) rfl hP hD hS hA (fun H locs hP hD hS => ?_)
    refine lv_aload_n hx hb d_V_go_179 rfl (lv_at hl 0 rfl) ?_
    refine va_get (D := (dC, dI)) (ci := 4) (v := .int (u27 29 0)) (C := R_V) (T := T_V) (N := 6) hx hb hg in_V hown hK hP 5 rfl rfl 5 (by decide) (hg _ t_129) (fun _ h9 => h9) rfl d_V_go_180 ?_
    obtain ⟨h8, h9⟩ := qs_ret hF
    exact W.iret (v := u27 29 0) hx hb hr (fun t ht hW => ⟨⟨(u27 29 0), u27, rfl, ⟨h8, h9⟩, by rw [ht]; exact hP, va_K.moved hW.alike hK, hD⟩, hS.F ht⟩) hS.2.2 d_V_go_183
  have kb_147 : ∀ (g : Sg) (x1 : Int32) (x2 : Int32) (x3 : Int32) (y0 : Int32) (H : Heap) (locs : List Loc) (ls : Array Slot), va_P (dC, dI) vwCl (qs_W h c g) H → va_D A (qs_W h c g) → va_S A s.heap H locs → lv_has ls 7 [(0, .ref (h 5)), (1, .int (x1)), (2, .int (x2)), (3, .int (x3))] → f_V_go_147  g x1 x2 x3 y0 = some (r0, u0) → W p l e (headSpec (qs_ws y_V_go b_V_go 7 (some .int)) ({ frames := 4, cells := 0, slots := 0, locals := 94 } : Room)).room s m ([.ref (h 5), .int a1, .int a2] : List Value).toArray below meth cd H locs 0 0 (MQ below (va_Qi (fun (r : Int32) (u : Sg) => r = r0 ∧ u = u0) (qs_at dC dI h c A) A) ([.ref (h 5), .int a1, .int a2] : List Value).toArray s 0 0 A) (F0 m 147 ls [.int (y0)]) := by
    intro g x1 x2 x3 y0 H locs ls hP hD hS hl hF
    unfold f_V_go_147 at hF
    refine lv_istore (lv' := [(6, .int (y0)), (0, .ref (h 5)), (1, .int (x1)), (2, .int (x2)), (3, .int (x3))]) hx hb d_V_go_147 hl (by decide) rfl (fun ls hl => ?_)
    refine lv_aload_n hx hb d_V_go_149 rfl (lv_at hl 1 rfl) ?_
    refine va_get (D := (dC, dI)) (ci := 4) (v := .ref (h 1)) (C := R_V) (T := T_V) (N := 6) hx hb hg in_V hown hK hP 5 rfl rfl 0 (by decide) (hg _ t_123) (fun _ h9 => h9) rfl d_V_go_150 ?_
    refine lv_iload_n hx hb d_V_go_153 rfl (lv_at hl 2 rfl) ?_
    refine lv_iconst (v := 2) hx hb d_V_go_154 (by decide) ?_
    refine lv_iload_n hx hb d_V_go_155 rfl (lv_at hl 3 rfl) ?_
    refine lv_iadd hx hb d_V_go_156 ?_
    refine lv_iload hx hb d_V_go_157 (lv_at hl 0 rfl) ?_
    refine lv_if_eq (tgt := 175) hx hb d_V_go_159 (by decide) (fun c23 => ?_) (fun c23 => ?_)
    · have hF := qs_pos c23 hF
      refine lv_iconst (v := 0) hx hb d_V_go_175 (by decide) ?_
      exact kb_176 g (x1) (2 + x2) (0) H locs ls hP hD hS (lv_sub hl [1] rfl) hF
    · have hF := qs_neg c23 hF
      refine lv_iload_n hx hb d_V_go_162 rfl (lv_at hl 4 rfl) ?_
      refine lv_ineg hx hb d_V_go_163 ?_
      refine lv_iconst (v := 2) hx hb d_V_go_164 (by decide) ?_
      obtain ⟨r24, hX, hF⟩ := qs_pb_some hF
      refine qs_psi (va_runS (own := "QuakeServer$Mover") (As := [.int (-x3), .int (2)]) (rest := [.int (2 + x2), .int (x1), .ref (h 1)]) ⟨hx, hb, hml, hown, hg⟩ (c_J_floorDiv_III l H.size (-x3) (2) r24 hX) (va_cwS 2 hg (qs_gS t_525 t_526 t_15 t_527) rfl rfl rfl (by decide +kernel) ⟨Nat.le_of_ble_eq_true rfl, Nat.le_of_ble_eq_true rfl⟩) ⟨qs_blind0, fun U hU hW => ⟨rfl, by rw [hU], hNs.warm hW⟩⟩ rfl rfl hl.1 rfl (lv_room (Nat.le_of_ble_eq_true rfl)) d_V_go_165 ⟨Nat.le_of_ble_eq_true rfl, Nat.le_of_ble_eq_true rfl⟩) hP hD hS hA (fun H locs hP hS => ?_)
      refine lv_i2l (v := r24.toInt64) hx hb d_V_go_168 rfl ?_
      obtain ⟨r25, hX, hF⟩ := qs_pb_some hF
      refine qs_psi (va_runSN (own := "QuakeServer$Mover") (As := [.long (r24.toInt64)]) (rest := [.int (2 + x2), .int (x1), .ref (h 1)]) ⟨hx, hb, hml, hown, hg⟩ (c_Q_inRange l H.size (r24.toInt64) r25 hX) ⟨va_cnB (own := "QuakeServer$Mover") (index := 32) (host := "QuakeServer") 1 hg (qs_gc t_471) rfl rfl rfl (nM_8 hNs) (hg _ t_1) (by decide +kernel) ⟨Nat.le_of_ble_eq_true rfl, Nat.le_of_ble_eq_true rfl⟩, hg _ t_470, trivial⟩ ⟨qs_blind0, fun U hU hW => ⟨rfl, by rw [hU], hNs.warm hW⟩⟩ rfl rfl hl.1 rfl (lv_room (Nat.le_of_ble_eq_true rfl)) d_V_go_169 ⟨Nat.le_of_ble_eq_true rfl, Nat.le_of_ble_eq_true rfl⟩) hP hD hS hA (fun H locs hP hS => ?_)
      refine lv_goto (tgt := 176) hx hb d_V_go_172 (by decide) ?_
      exact kb_176 g (x1) (2 + x2) (r25) H locs ls hP hD hS (lv_sub hl [1] rfl) hF
  have kb_101 : ∀ (g : Sg) (x1 : Int32) (x2 : Int32) (x3 : Int32) (y0 : Int32) (y1 : Int32) (H : Heap) (locs : List Loc) (ls : Array Slot), va_P (dC, dI) vwCl (qs_W h c g) H → va_D A (qs_W h c g) → va_S A s.heap H locs → lv_has ls 7 [(0, .ref (h 5)), (1, .int (x1)), (2, .int (x2)), (3, .int (x3))] → f_V_go_101  g x1 x2 x3 y0 y1 = some (r0, u0) → W p l e (headSpec (qs_ws y_V_go b_V_go 7 (some .int)) ({ frames := 4, cells := 0, slots := 0, locals := 94 } : Room)).room s m ([.ref (h 5), .int a1, .int a2] : List Value).toArray below meth cd H locs 0 0 (MQ below (va_Qi (fun (r : Int32) (u : Sg) => r = r0 ∧ u = u0) (qs_at dC dI h c A) A) ([.ref (h 5), .int a1, .int a2] : List Value).toArray s 0 0 A) (F0 m 101 ls [.int (y1), .int (y0)]) := by
    intro g x1 x2 x3 y0 y1 H locs ls hP hD hS hl hF
    unfold f_V_go_101 at hF
    refine lv_iadd hx hb d_V_go_101 ?_
    refine lv_istore (lv' := [(5, .int (y0 + y1)), (0, .ref (h 5)), (1, .int (x1)), (2, .int (x2)), (3, .int (x3))]) hx hb d_V_go_102 hl (by decide) rfl (fun ls hl => ?_)
    refine lv_aload_n hx hb d_V_go_104 rfl (lv_at hl 1 rfl) ?_
    refine va_get (D := (dC, dI)) (ci := 4) (v := .ref (h 1)) (C := R_V) (T := T_V) (N := 6) hx hb hg in_V hown hK hP 5 rfl rfl 0 (by decide) (hg _ t_123) (fun _ h9 => h9) rfl d_V_go_105 ?_
    refine lv_iload_n hx hb d_V_go_108 rfl (lv_at hl 2 rfl) ?_
    refine lv_iload_n hx hb d_V_go_109 rfl (lv_at hl 3 rfl) ?_
    refine lv_iload hx hb d_V_go_110 (lv_at hl 0 rfl) ?_
    refine lv_i2l (v := (y0 + y1).toInt64) hx hb d_V_go_112 rfl ?_
    obtain ⟨r16, hX, hF⟩ := qs_pb_some hF
    refine qs_psi (va_runSN (own := "QuakeServer$Mover") (As := [.long ((y0 + y1).toInt64)]) (rest := [.int (x2), .int (x1), .ref (h 1)]) ⟨hx, hb, hml, hown, hg⟩ (c_Q_inRange l H.size ((y0 + y1).toInt64) r16 hX) ⟨va_cnB (own := "QuakeServer$Mover") (index := 32) (host := "QuakeServer") 1 hg (qs_gc t_471) rfl rfl rfl (nM_8 hNs) (hg _ t_1) (by decide +kernel) ⟨Nat.le_of_ble_eq_true rfl, Nat.le_of_ble_eq_true rfl⟩, hg _ t_470, trivial⟩ ⟨qs_blind0, fun U hU hW => ⟨rfl, by rw [hU], hNs.warm hW⟩⟩ rfl rfl hl.1 rfl (lv_room (Nat.le_of_ble_eq_true rfl)) d_V_go_113 ⟨Nat.le_of_ble_eq_true rfl, Nat.le_of_ble_eq_true rfl⟩) hP hD hS hA (fun H locs hP hS => ?_)
    obtain ⟨r17, u18, hX, hF⟩ := qs_bn_some hF
    refine qs_cv (Wd := qs_W h c) (isC := [0, 1, 2, 3, 4, 5, 6, 7, 8, 9, 10, 11, 12, 13, 14, 15, 16]) (va_runV (own := "QuakeServer$Mover") (C := "QuakeServer$Entities") (As := [.int (x1), .int (x2), .int (r16)]) (rest := []) ⟨hx, hb, hml, hown, hg⟩ (c_E_put l dC dI h c H.size g (x1) (x2) (r16)  u18 hX) (cwV 3 hg (qs_gV t_516 t_355 t_356 t_2 t_357) rfl rfl rfl (by decide +kernel) ⟨Nat.le_of_ble_eq_true rfl, Nat.le_of_ble_eq_true rfl⟩) ⟨qs_blind, va_recv hK hP (ci := 0) (q0 := 1) rfl rfl, fun U hU hW => ⟨rfl, by rw [hU], by rw [hU]; exact hP, va_K.moved hW.alike hK, hD.weaken (fun _ _ _ _ => trivial), hNs.warm hW⟩⟩ rfl rfl hl.1 rfl (lv_room (Nat.le_of_ble_eq_true rfl)) d_V_go_116 ⟨Nat.le_of_ble_eq_true rfl, Nat.le_of_ble_eq_true rfl⟩) rfl hP hD hS hA (fun H locs hP hD hS => ?_)
    refine lv_aload_n hx hb d_V_go_119 rfl (lv_at hl 1 rfl) ?_
    refine va_get (D := (dC, dI)) (ci := 4) (v := .int (u18 29 0)) (C := R_V) (T := T_V) (N := 6) hx hb hg in_V hown hK hP 5 rfl rfl 5 (by decide) (hg _ t_129) (fun _ h9 => h9) rfl d_V_go_120 ?_
    refine lv_bipush (v := (-2)) hx hb d_V_go_123 (by decide) ?_
    refine lv_icmp_eq (tgt := 179) hx hb d_V_go_125 (by decide) (fun c19 => ?_) (fun c19 => ?_)
    · have hF := qs_pos c19 hF
      refine lv_aload_n hx hb d_V_go_179 rfl (lv_at hl 1 rfl) ?_
      refine va_get (D := (dC, dI)) (ci := 4) (v := .int (u18 29 0)) (C := R_V) (T := T_V) (N := 6) hx hb hg in_V hown hK hP 5 rfl rfl 5 (by decide) (hg _ t_129) (fun _ h9 => h9) rfl d_V_go_180 ?_
      obtain ⟨h8, h9⟩ := qs_ret hF
      exact W.iret (v := u18 29 0) hx hb hr (fun t ht hW => ⟨⟨(u18 29 0), u18, rfl, ⟨h8, h9⟩, by rw [ht]; exact hP, va_K.moved hW.alike hK, hD⟩, hS.F ht⟩) hS.2.2 d_V_go_183
    · have hF := qs_neg c19 hF
      refine lv_aload_n hx hb d_V_go_128 rfl (lv_at hl 1 rfl) ?_
      refine va_get (D := (dC, dI)) (ci := 4) (v := .ref (h 1)) (C := R_V) (T := T_V) (N := 6) hx hb hg in_V hown hK hP 5 rfl rfl 0 (by decide) (hg _ t_123) (fun _ h9 => h9) rfl d_V_go_129 ?_
      refine lv_iload_n hx hb d_V_go_132 rfl (lv_at hl 2 rfl) ?_
      refine lv_bipush (v := 6) hx hb d_V_go_133 (by decide) ?_
      obtain ⟨r20, u21, hX, hF⟩ := qs_bn_some hF
      refine qs_ci (Wd := qs_W h c) (isC := [0, 1, 2, 3, 4, 5, 6, 7, 8, 9, 10, 11, 12, 13, 14, 15, 16]) (va_runV (own := "QuakeServer$Mover") (C := "QuakeServer$Entities") (As := [.int (x1), .int (6)]) (rest := []) ⟨hx, hb, hml, hown, hg⟩ (c_E_wholeField l dC dI h c H.size u18 (x1) (6) r20 u21 hX) (cwV 2 hg (qs_gV t_508 t_509 t_510 t_2 t_511) rfl rfl rfl (by decide +kernel) ⟨Nat.le_of_ble_eq_true rfl, Nat.le_of_ble_eq_true rfl⟩) ⟨qs_blind, va_recv hK hP (ci := 0) (q0 := 1) rfl rfl, fun U hU hW => ⟨rfl, by rw [hU], by rw [hU]; exact hP, va_K.moved hW.alike hK, hD.weaken (fun _ _ _ _ => trivial), hNs.warm hW⟩⟩ rfl rfl hl.1 rfl (lv_room (Nat.le_of_ble_eq_true rfl)) d_V_go_135 ⟨Nat.le_of_ble_eq_true rfl, Nat.le_of_ble_eq_true rfl⟩) rfl hP hD hS hA (fun H locs hP hD hS => ?_)
      refine lv_iconst (v := 3) hx hb d_V_go_138 (by decide) ?_
      refine lv_icmp_ne (tgt := 146) hx hb d_V_go_139 (by decide) (fun c22 => ?_) (fun c22 => ?_)
      · have hF := qs_neg c22 hF
        refine lv_iconst (v := 0) hx hb d_V_go_146 (by decide) ?_
        exact kb_147 u21 (x1) (x2) (x3) (0) H locs ls hP hD hS (lv_sub hl [1, 2, 3, 4] rfl) hF
      · have hF := qs_pos c22 hF
        refine lv_iconst (v := 1) hx hb d_V_go_142 (by decide) ?_
        refine lv_goto (tgt := 147) hx hb d_V_go_143 (by decide) ?_
        exact kb_147 u21 (x1) (x2) (x3) (1) H locs ls hP hD hS (lv_sub hl [1, 2, 3, 4] rfl) hF
  have kb_72 : ∀ (g : Sg) (x1 : Int32) (x2 : Int32) (x3 : Int32) (x4 : Int32) (y1 : Int32) (y2 : Int32) (y3 : Int32) (H : Heap) (locs : List Loc) (ls : Array Slot), va_P (dC, dI) vwCl (qs_W h c g) H → va_D A (qs_W h c g) → va_S A s.heap H locs → lv_has ls 7 [(0, .ref (h 5)), (1, .int (x1)), (2, .int (x2)), (3, .int (x3)), (4, .int (x4))] → f_V_go_72  g x1 x2 x3 x4 y1 y2 y3 = some (r0, u0) → W p l e (headSpec (qs_ws y_V_go b_V_go 7 (some .int)) ({ frames := 4, cells := 0, slots := 0, locals := 94 } : Room)).room s m ([.ref (h 5), .int a1, .int a2] : List Value).toArray below meth cd H locs 0 0 (MQ below (va_Qi (fun (r : Int32) (u : Sg) => r = r0 ∧ u = u0) (qs_at dC dI h c A) A) ([.ref (h 5), .int a1, .int a2] : List Value).toArray s 0 0 A) (F0 m 72 ls [.int (y3), .int (y2), .int (y1), .ref (h 5)]) := by
    intro g x1 x2 x3 x4 y1 y2 y3 H locs ls hP hD hS hl hF
    unfold f_V_go_72 at hF
    obtain ⟨r11, u12, hX, hF⟩ := qs_bn_some hF
    refine qs_cv (Wd := qs_W h c) (isC := [0, 1, 2, 3, 4, 5, 6, 7, 8, 9, 10, 11, 12, 13, 14, 15, 16]) (va_runV (own := "QuakeServer$Mover") (C := "QuakeServer$Mover") (As := [.int (y1), .int (y2), .int (y3)]) (rest := []) ⟨hx, hb, hml, hown, hg⟩ (c_V_meetEntities l dC dI h c H.size g (y1) (y2) (y3)  u12 hX) (cwV 3 hg (qs_gV t_565 t_567 tp_13 t_6 t_568) rfl rfl rfl (by decide +kernel) ⟨Nat.le_of_ble_eq_true rfl, Nat.le_of_ble_eq_true rfl⟩) ⟨qs_blind, va_recv hK hP (ci := 4) (q0 := 5) rfl rfl, fun U hU hW => ⟨rfl, by rw [hU], by rw [hU]; exact hP, va_K.moved hW.alike hK, hD.weaken (fun _ _ _ _ => trivial), hNs.warm hW⟩⟩ rfl rfl hl.1 rfl (lv_room (Nat.le_of_ble_eq_true rfl)) d_V_go_72 ⟨Nat.le_of_ble_eq_true rfl, Nat.le_of_ble_eq_true rfl⟩) rfl hP hD hS hA (fun H locs hP hD hS => ?_)
    refine lv_aload_n hx hb d_V_go_75 rfl (lv_at hl 0 rfl) ?_
    refine va_get (D := (dC, dI)) (ci := 4) (v := .ref (h 1)) (C := R_V) (T := T_V) (N := 6) hx hb hg in_V hown hK hP 5 rfl rfl 0 (by decide) (hg _ t_123) (fun _ h9 => h9) rfl d_V_go_76 ?_
    refine lv_iload_n hx hb d_V_go_79 rfl (lv_at hl 1 rfl) ?_
    refine lv_iload_n hx hb d_V_go_80 rfl (lv_at hl 2 rfl) ?_
    obtain ⟨r13, u14, hX, hF⟩ := qs_bn_some hF
    refine qs_ci (Wd := qs_W h c) (isC := [0, 1, 2, 3, 4, 5, 6, 7, 8, 9, 10, 11, 12, 13, 14, 15, 16]) (va_runV (own := "QuakeServer$Mover") (C := "QuakeServer$Entities") (As := [.int (x1), .int (x2)]) (rest := []) ⟨hx, hb, hml, hown, hg⟩ (c_E_field l dC dI h c H.size u12 (x1) (x2) r13 u14 hX) (cwV 2 hg (qs_gV t_514 t_192 t_193 t_2 t_194) rfl rfl rfl (by decide +kernel) ⟨Nat.le_of_ble_eq_true rfl, Nat.le_of_ble_eq_true rfl⟩) ⟨qs_blind, va_recv hK hP (ci := 0) (q0 := 1) rfl rfl, fun U hU hW => ⟨rfl, by rw [hU], by rw [hU]; exact hP, va_K.moved hW.alike hK, hD.weaken (fun _ _ _ _ => trivial), hNs.warm hW⟩⟩ rfl rfl hl.1 rfl (lv_room (Nat.le_of_ble_eq_true rfl)) d_V_go_81 ⟨Nat.le_of_ble_eq_true rfl, Nat.le_of_ble_eq_true rfl⟩) rfl hP hD hS hA (fun H locs hP hD hS => ?_)
    refine lv_iload hx hb d_V_go_84 (lv_at hl 4 rfl) ?_
    refine lv_if_le (tgt := 96) hx hb d_V_go_86 (by decide) (fun c15 => ?_) (fun c15 => ?_)
    · have hF := qs_pos c15 hF
      refine lv_aload_n hx hb d_V_go_96 rfl (lv_at hl 0 rfl) ?_
      refine va_get (D := (dC, dI)) (ci := 4) (v := .int (u14 28 0)) (C := R_V) (T := T_V) (N := 6) hx hb hg in_V hown hK hP 5 rfl rfl 4 (by decide) (hg _ t_128) (fun _ h9 => h9) rfl d_V_go_97 ?_
      refine lv_ineg hx hb d_V_go_100 ?_
      exact kb_101 u14 (x1) (x2) (x3) (r13) (-(u14 28 0)) H locs ls hP hD hS (lv_sub hl [0, 1, 2, 3] rfl) hF
    · have hF := qs_neg c15 hF
      refine lv_aload_n hx hb d_V_go_89 rfl (lv_at hl 0 rfl) ?_
      refine va_get (D := (dC, dI)) (ci := 4) (v := .int (u14 28 0)) (C := R_V) (T := T_V) (N := 6) hx hb hg in_V hown hK hP 5 rfl rfl 4 (by decide) (hg _ t_128) (fun _ h9 => h9) rfl d_V_go_90 ?_
      refine lv_goto (tgt := 101) hx hb d_V_go_93 (by decide) ?_
      exact kb_101 u14 (x1) (x2) (x3) (r13) (u14 28 0) H locs ls hP hD hS (lv_sub hl [0, 1, 2, 3] rfl) hF
  have kb_56 : ∀ (g : Sg) (x1 : Int32) (x2 : Int32) (x3 : Int32) (x4 : Int32) (y1 : Int32) (y2 : Int32) (y3 : Int32) (H : Heap) (locs : List Loc) (ls : Array Slot), va_P (dC, dI) vwCl (qs_W h c g) H → va_D A (qs_W h c g) → va_S A s.heap H locs → lv_has ls 7 [(0, .ref (h 5)), (1, .int (x1)), (2, .int (x2)), (3, .int (x3)), (4, .int (x4))] → f_V_go_56  g x1 x2 x3 x4 y1 y2 y3 = some (r0, u0) → W p l e (headSpec (qs_ws y_V_go b_V_go 7 (some .int)) ({ frames := 4, cells := 0, slots := 0, locals := 94 } : Room)).room s m ([.ref (h 5), .int a1, .int a2] : List Value).toArray below meth cd H locs 0 0 (MQ below (va_Qi (fun (r : Int32) (u : Sg) => r = r0 ∧ u = u0) (qs_at dC dI h c A) A) ([.ref (h 5), .int a1, .int a2] : List Value).toArray s 0 0 A) (F0 m 56 ls [.int (y3), .int (y2), .int (y1), .ref (h 5)]) := by
    intro g x1 x2 x3 x4 y1 y2 y3 H locs ls hP hD hS hl hF
    unfold f_V_go_56 at hF
    obtain ⟨r8, u9, hX, hF⟩ := qs_bn_some hF
    refine qs_cv (Wd := qs_W h c) (isC := [0, 1, 2, 3, 4, 5, 6, 7, 8, 9, 10, 11, 12, 13, 14, 15, 16]) (va_runV (own := "QuakeServer$Mover") (C := "QuakeServer$Mover") (As := [.int (y1), .int (y2), .int (y3)]) (rest := []) ⟨hx, hb, hml, hown, hg⟩ (c_V_meetWalls l dC dI h c H.size g (y1) (y2) (y3)  u9 hX) (cwV 3 hg (qs_gV t_531 t_533 tp_10 t_6 t_534) rfl rfl rfl (by decide +kernel) ⟨Nat.le_of_ble_eq_true rfl, Nat.le_of_ble_eq_true rfl⟩) ⟨qs_blind, va_recv hK hP (ci := 4) (q0 := 5) rfl rfl, fun U hU hW => ⟨rfl, by rw [hU], by rw [hU]; exact hP, va_K.moved hW.alike hK, hD.weaken (fun _ _ _ _ => trivial), hNs.warm hW⟩⟩ rfl rfl hl.1 rfl (lv_room (Nat.le_of_ble_eq_true rfl)) d_V_go_56 ⟨Nat.le_of_ble_eq_true rfl, Nat.le_of_ble_eq_true rfl⟩) rfl hP hD hS hA (fun H locs hP hD hS => ?_)
    refine lv_aload_n hx hb d_V_go_59 rfl (lv_at hl 0 rfl) ?_
    refine lv_iload_n hx hb d_V_go_60 rfl (lv_at hl 1 rfl) ?_
    refine lv_iload_n hx hb d_V_go_61 rfl (lv_at hl 2 rfl) ?_
    refine lv_iload hx hb d_V_go_62 (lv_at hl 4 rfl) ?_
    refine lv_if_le (tgt := 71) hx hb d_V_go_64 (by decide) (fun c10 => ?_) (fun c10 => ?_)
    · have hF := qs_pos c10 hF
      refine lv_iconst (v := 0) hx hb d_V_go_71 (by decide) ?_
      exact kb_72 u9 (x1) (x2) (x3) (x4) (x1) (x2) (0) H locs ls hP hD hS (lv_sub hl [0, 1, 2, 3, 4] rfl) hF
    · have hF := qs_neg c10 hF
      refine lv_iconst (v := 1) hx hb d_V_go_67 (by decide) ?_
      refine lv_goto (tgt := 72) hx hb d_V_go_68 (by decide) ?_
      exact kb_72 u9 (x1) (x2) (x3) (x4) (x1) (x2) (1) H locs ls hP hD hS (lv_sub hl [0, 1, 2, 3, 4] rfl) hF
  have hl := lv_entry ([.ref (h 5), .int a1, .int a2] : List Value) (n := 7) (Nat.le_of_ble_eq_true rfl)
  rw [lg_entry_eq]
  generalize (lg_sl ([.ref (h 5), .int a1, .int a2] : List Value) ++ List.replicate (7 - (lg_sl ([.ref (h 5), .int a1, .int a2] : List Value)).length) Slot.unset).toArray = ls at hl ⊢
  have hl : lv_has ls 7 [(0, .ref (h 5)), (1, .int (a1)), (2, .int (a2))] := hl
  unfold f_V_go at hF
  obtain ⟨H, hHe⟩ : ∃ H, H = s.heap := ⟨_, rfl⟩
  obtain ⟨locs, hLe⟩ : ∃ L : List Loc, L = [] := ⟨_, rfl⟩
  rw [← hHe] at hP ⊢
  rw [← hLe]
  have hS : va_S A s.heap H locs := by rw [hHe, hLe]; exact hS
  refine lv_aload_n hx hb d_V_go_0 rfl (lv_at hl 0 rfl) ?_
  refine va_get (D := (dC, dI)) (ci := 4) (v := .ref (h 1)) (C := R_V) (T := T_V) (N := 6) hx hb hg in_V hown hK hP 5 rfl rfl 0 (by decide) (hg _ t_123) (fun _ h9 => h9) rfl d_V_go_1 ?_
  refine lv_iload_n hx hb d_V_go_4 rfl (lv_at hl 1 rfl) ?_
  refine lv_iconst (v := 2) hx hb d_V_go_5 (by decide) ?_
  refine lv_iload_n hx hb d_V_go_6 rfl (lv_at hl 2 rfl) ?_
  refine lv_iadd hx hb d_V_go_7 ?_
  obtain ⟨r1, u2, hX, hF⟩ := qs_bn_some hF
  refine qs_ci (Wd := qs_W h c) (isC := [0, 1, 2, 3, 4, 5, 6, 7, 8, 9, 10, 11, 12, 13, 14, 15, 16]) (va_runV (own := "QuakeServer$Mover") (C := "QuakeServer$Entities") (As := [.int (a1), .int (2 + a2)]) (rest := []) ⟨hx, hb, hml, hown, hg⟩ (c_E_field l dC dI h c H.size g (a1) (2 + a2) r1 u2 hX) (cwV 2 hg (qs_gV t_514 t_192 t_193 t_2 t_194) rfl rfl rfl (by decide +kernel) ⟨Nat.le_of_ble_eq_true rfl, Nat.le_of_ble_eq_true rfl⟩) ⟨qs_blind, va_recv hK hP (ci := 0) (q0 := 1) rfl rfl, fun U hU hW => ⟨rfl, by rw [hU], by rw [hU]; exact hP, va_K.moved hW.alike hK, hD.weaken (fun _ _ _ _ => trivial), hNs.warm hW⟩⟩ rfl rfl hl.1 rfl (lv_room (Nat.le_of_ble_eq_true rfl)) d_V_go_8 ⟨Nat.le_of_ble_eq_true rfl, Nat.le_of_ble_eq_true rfl⟩) rfl hP hD hS hA (fun H locs hP hD hS => ?_)
  refine lv_istore_n (lv' := [(3, .int (r1)), (0, .ref (h 5)), (1, .int (a1)), (2, .int (a2))]) hx hb d_V_go_11 rfl hl (by decide) rfl (fun ls hl => ?_)
  refine lv_iload_n hx hb d_V_go_12 rfl (lv_at hl 0 rfl) ?_
  refine lv_bipush (v := 8) hx hb d_V_go_13 (by decide) ?_
  obtain ⟨r3, hX, hF⟩ := qs_pb_some hF
  refine qs_psi (va_runS (own := "QuakeServer$Mover") (As := [.int (r1), .int (8)]) (rest := []) ⟨hx, hb, hml, hown, hg⟩ (c_J_floorDiv_III l H.size (r1) (8) r3 hX) (va_cwS 2 hg (qs_gS t_525 t_526 t_15 t_527) rfl rfl rfl (by decide +kernel) ⟨Nat.le_of_ble_eq_true rfl, Nat.le_of_ble_eq_true rfl⟩) ⟨qs_blind0, fun U hU hW => ⟨rfl, by rw [hU], hNs.warm hW⟩⟩ rfl rfl hl.1 rfl (lv_room (Nat.le_of_ble_eq_true rfl)) d_V_go_15 ⟨Nat.le_of_ble_eq_true rfl, Nat.le_of_ble_eq_true rfl⟩) hP hD hS hA (fun H locs hP hS => ?_)
  refine lv_istore (lv' := [(4, .int (r3)), (3, .int (r1)), (0, .ref (h 5)), (1, .int (a1)), (2, .int (a2))]) hx hb d_V_go_18 hl (by decide) rfl (fun ls hl => ?_)
  refine lv_iload hx hb d_V_go_20 (lv_at hl 0 rfl) ?_
  refine lv_if_ne (tgt := 28) hx hb d_V_go_22 (by decide) (fun c4 => ?_) (fun c4 => ?_)
  · have hF := qs_neg c4 hF
    refine lv_aload_n hx hb d_V_go_28 rfl (lv_at hl 2 rfl) ?_
    refine lv_iload hx hb d_V_go_29 (lv_at hl 0 rfl) ?_
    refine va_mabs hx hb (hml.trans hl.1.symm) hown (hg _ t_528) (hg _ t_529) (hg _ t_15) (hg _ t_530) (Nat.le_of_ble_eq_true rfl) (Nat.le_of_ble_eq_true rfl) (Nat.zero_le _) (Nat.zero_le _) d_V_go_31 ?_
    refine va_put (D := (dC, dI)) (ci := 4) (v := .int (if 0 ≤ r3 then r3 else 0 - r3)) (ty := .int) (C := R_V) (T := T_V) (N := 6) hx hb hg in_V ty_V ty_V_ok nm_V hown hK hP hD hS 5 rfl rfl 4 (by decide) (hg _ t_128) (fun _ h9 => h9) rfl (by decide +kernel) rfl rfl (Nat.le_of_ble_eq_true rfl) d_V_go_34 (fun H locs hP hD hS => ?_)
    obtain ⟨u5, hu5, hF⟩ := qs_st_some hF
    have hP : va_P (dC, dI) vwCl (qs_W h c u5) H := by rw [hu5]; exact hP
    have hD : va_D A (qs_W h c u5) := by rw [hu5]; exact hD
    clear hu5
    refine lv_aload_n hx hb d_V_go_37 rfl (lv_at hl 2 rfl) ?_
    refine lv_bipush (v := (-2)) hx hb d_V_go_38 (by decide) ?_
    refine va_put (D := (dC, dI)) (ci := 4) (v := .int ((-2))) (ty := .int) (C := R_V) (T := T_V) (N := 6) hx hb hg in_V ty_V ty_V_ok nm_V hown hK hP hD hS 5 rfl rfl 5 (by decide) (hg _ t_129) (fun _ h9 => h9) rfl (by decide +kernel) rfl rfl (Nat.le_of_ble_eq_true rfl) d_V_go_40 (fun H locs hP hD hS => ?_)
    obtain ⟨u6, hu6, hF⟩ := qs_st_some hF
    have hP : va_P (dC, dI) vwCl (qs_W h c u6) H := by rw [hu6]; exact hP
    have hD : va_D A (qs_W h c u6) := by rw [hu6]; exact hD
    clear hu6
    refine lv_aload_n hx hb d_V_go_43 rfl (lv_at hl 2 rfl) ?_
    refine lv_iload_n hx hb d_V_go_44 rfl (lv_at hl 3 rfl) ?_
    refine lv_iload_n hx hb d_V_go_45 rfl (lv_at hl 4 rfl) ?_
    refine lv_iload hx hb d_V_go_46 (lv_at hl 0 rfl) ?_
    refine lv_if_le (tgt := 55) hx hb d_V_go_48 (by decide) (fun c7 => ?_) (fun c7 => ?_)
    · have hF := qs_pos c7 hF
      refine lv_iconst (v := 0) hx hb d_V_go_55 (by decide) ?_
      exact kb_56 u6 (a1) (a2) (r1) (r3) (a1) (a2) (0) H locs ls hP hD hS (lv_sub hl [2, 3, 4, 1, 0] rfl) hF
    · have hF := qs_neg c7 hF
      refine lv_iconst (v := 1) hx hb d_V_go_51 (by decide) ?_
      refine lv_goto (tgt := 56) hx hb d_V_go_52 (by decide) ?_
      exact kb_56 u6 (a1) (a2) (r1) (r3) (a1) (a2) (1) H locs ls hP hD hS (lv_sub hl [2, 3, 4, 1, 0] rfl) hF
  · have hF := qs_pos c4 hF
    refine lv_bipush (v := (-2)) hx hb d_V_go_25 (by decide) ?_
    obtain ⟨h8, h9⟩ := qs_ret hF
    exact W.iret (v := (-2)) hx hb hr (fun t ht hW => ⟨⟨(-2), u2, rfl, ⟨h8, h9⟩, by rw [ht]; exact hP, va_K.moved hW.alike hK, hD⟩, hS.F ht⟩) hS.2.2 d_V_go_27

theorem d_V_travel_0 : decode b_V_travel 0 = .ok (.aload_n 0, 1) := by decide +kernel
theorem d_V_travel_1 : decode b_V_travel 1 = .ok (.iload_n 1, 1) := by decide +kernel
theorem d_V_travel_2 : decode b_V_travel 2 = .ok (.iload_n 2, 1) := by decide +kernel
theorem d_V_travel_3 : decode b_V_travel 3 = .ok (.invokevirtual 51, 3) := by decide +kernel
theorem d_V_travel_6 : decode b_V_travel 6 = .ok (.istore_n 3, 1) := by decide +kernel
theorem d_V_travel_7 : decode b_V_travel 7 = .ok (.iload_n 3, 1) := by decide +kernel
theorem d_V_travel_8 : decode b_V_travel 8 = .ok (.bipush (-2), 2) := by decide +kernel
theorem d_V_travel_10 : decode b_V_travel 10 = .ok (.if_icmp .ne 4, 3) := by decide +kernel
theorem d_V_travel_13 : decode b_V_travel 13 = .ok (.return_, 1) := by decide +kernel
theorem d_V_travel_14 : decode b_V_travel 14 = .ok (.aload_n 0, 1) := by decide +kernel
theorem d_V_travel_15 : decode b_V_travel 15 = .ok (.dup, 1) := by decide +kernel
theorem d_V_travel_16 : decode b_V_travel 16 = .ok (.getfield 54, 3) := by decide +kernel
theorem d_V_travel_19 : decode b_V_travel 19 = .ok (.iconst 1, 1) := by decide +kernel
theorem d_V_travel_20 : decode b_V_travel 20 = .ok (.iadd, 1) := by decide +kernel
theorem d_V_travel_21 : decode b_V_travel 21 = .ok (.putfield 54, 3) := by decide +kernel
theorem d_V_travel_24 : decode b_V_travel 24 = .ok (.aload_n 0, 1) := by decide +kernel
theorem d_V_travel_25 : decode b_V_travel 25 = .ok (.getfield 19, 3) := by decide +kernel
theorem d_V_travel_28 : decode b_V_travel 28 = .ok (.aload_n 0, 1) := by decide +kernel
theorem d_V_travel_29 : decode b_V_travel 29 = .ok (.getfield 9, 3) := by decide +kernel
theorem d_V_travel_32 : decode b_V_travel 32 = .ok (.iload_n 1, 1) := by decide +kernel
theorem d_V_travel_33 : decode b_V_travel 33 = .ok (.bipush 8, 2) := by decide +kernel
theorem d_V_travel_35 : decode b_V_travel 35 = .ok (.invokevirtual 23, 3) := by decide +kernel
theorem d_V_travel_38 : decode b_V_travel 38 = .ok (.iconst 1, 1) := by decide +kernel
theorem d_V_travel_39 : decode b_V_travel 39 = .ok (.isub, 1) := by decide +kernel
theorem d_V_travel_40 : decode b_V_travel 40 = .ok (.iload_n 1, 1) := by decide +kernel
theorem d_V_travel_41 : decode b_V_travel 41 = .ok (.iload_n 3, 1) := by decide +kernel
theorem d_V_travel_42 : decode b_V_travel 42 = .ok (.invokevirtual 58, 3) := by decide +kernel
theorem d_V_travel_45 : decode b_V_travel 45 = .ok (.pop, 1) := by decide +kernel
theorem d_V_travel_46 : decode b_V_travel 46 = .ok (.aload_n 0, 1) := by decide +kernel
theorem d_V_travel_47 : decode b_V_travel 47 = .ok (.getfield 9, 3) := by decide +kernel
theorem d_V_travel_50 : decode b_V_travel 50 = .ok (.iload_n 3, 1) := by decide +kernel
theorem d_V_travel_51 : decode b_V_travel 51 = .ok (.invokevirtual 64, 3) := by decide +kernel
theorem d_V_travel_54 : decode b_V_travel 54 = .ok (.ifCond .eq 36, 3) := by decide +kernel
theorem d_V_travel_57 : decode b_V_travel 57 = .ok (.aload_n 0, 1) := by decide +kernel
theorem d_V_travel_58 : decode b_V_travel 58 = .ok (.getfield 9, 3) := by decide +kernel
theorem d_V_travel_61 : decode b_V_travel 61 = .ok (.iload_n 1, 1) := by decide +kernel
theorem d_V_travel_62 : decode b_V_travel 62 = .ok (.invokevirtual 64, 3) := by decide +kernel
theorem d_V_travel_65 : decode b_V_travel 65 = .ok (.ifCond .eq 25, 3) := by decide +kernel
theorem d_V_travel_68 : decode b_V_travel 68 = .ok (.aload_n 0, 1) := by decide +kernel
theorem d_V_travel_69 : decode b_V_travel 69 = .ok (.getfield 19, 3) := by decide +kernel
theorem d_V_travel_72 : decode b_V_travel 72 = .ok (.aload_n 0, 1) := by decide +kernel
theorem d_V_travel_73 : decode b_V_travel 73 = .ok (.getfield 9, 3) := by decide +kernel
theorem d_V_travel_76 : decode b_V_travel 76 = .ok (.iload_n 3, 1) := by decide +kernel
theorem d_V_travel_77 : decode b_V_travel 77 = .ok (.bipush 8, 2) := by decide +kernel
theorem d_V_travel_79 : decode b_V_travel 79 = .ok (.invokevirtual 23, 3) := by decide +kernel
theorem d_V_travel_82 : decode b_V_travel 82 = .ok (.iconst 1, 1) := by decide +kernel
theorem d_V_travel_83 : decode b_V_travel 83 = .ok (.isub, 1) := by decide +kernel
theorem d_V_travel_84 : decode b_V_travel 84 = .ok (.iload_n 3, 1) := by decide +kernel
theorem d_V_travel_85 : decode b_V_travel 85 = .ok (.iload_n 1, 1) := by decide +kernel
theorem d_V_travel_86 : decode b_V_travel 86 = .ok (.invokevirtual 58, 3) := by decide +kernel
theorem d_V_travel_89 : decode b_V_travel 89 = .ok (.pop, 1) := by decide +kernel
theorem d_V_travel_90 : decode b_V_travel 90 = .ok (.return_, 1) := by decide +kernel
def f_V_travel (g : Sg) (a1 : Int32) (a2 : Int32) : Option (Unit × Sg) := (qs_bn (f_V_go g (a1) (a2)) fun r1 u2 => (if r1 = (-2) then (some ((), u2)) else (qs_st (qs_i u2 27 ((u2 27 0) + 1)) fun u4 => (qs_bn (f_E_wholeField u4 (a1) (8)) fun r5 u6 => (qs_bn (f_M_start u6 (r5 - 1) (a1) (r1)) fun r7 u8 => (qs_bn (f_E_isThere u8 (r1)) fun r9 u10 => (if r9 = 0 then (some ((), u10)) else (qs_bn (f_E_isThere u10 (a1)) fun r12 u13 => (if r12 = 0 then (some ((), u13)) else (qs_bn (f_E_wholeField u13 (r1) (8)) fun r15 u16 => (qs_bn (f_M_start u16 (r15 - 1) (r1) (a1)) fun r17 u18 => (some ((), u18)))))))))))))
set_option maxHeartbeats 4000000 in
set_option maxRecDepth 100000 in
theorem c_V_travel (l : Launch) (dC : Nat → ClassId) (dI : Nat → Nat → Nat) (h : Nat → Nat) (c : Nat → ClassId) (sz : Nat) (g : Sg) (a1 : Int32) (a2 : Int32) (u0 : Sg) (hF : f_V_travel g a1 a2 = some ((), u0)) : Met l y_V_travel (qs_ws y_V_travel b_V_travel 4 none) ({ frames := 5, cells := 0, slots := 0, locals := 121 } : Room) (va_Pc ([.ref (h 5), .int a1, .int a2] : List Value) (fun U => U.heap.size = sz ∧ va_P (dC, dI) vwCl (qs_W h c g) U.heap ∧ va_K (dC, dI) vwCl (qs_T c) U ∧ va_D (fun _ => True) (qs_W h c g) ∧ qs_N U)) (va_Qv (fun (u : Sg) => u = u0) (qs_at dC dI h c (va_A (qs_W h c g) sz)) (va_A (qs_W h c g) sz)) 0 0 (va_A (qs_W h c g) sz) := by
  refine Met.ofW (cc := b_V_travel) (maxL := 4) (ret := none) (by decide +kernel) rfl ?_
  intro p e s m args below meth cd s₁ B hml hv
  obtain ⟨rfl, hsz, hP, hK, hD0, hNs⟩ := hv
  have hx := B.exec
  have hb := B.bytes
  have hr := B.returns
  have hts := atoms_spec (ws := (qs_ws y_V_travel b_V_travel 4 none)) B.pre
  have hg : ∀ w ∈ qs_gt, w.before _ s = true := fun w h => hts w (List.mem_cons_of_mem _ h)
  have hown : s.vm.findClass R_V = some m.cls := findClass_of_methodNamed B.named
  have hlocks := B.notSynchronized
  subst hsz
  have hD := hD0.self (sz := s.heap.size)
  generalize hAe : va_A (qs_W h c g) s.heap.size = A at hD ⊢
  have hA : ∀ q : Nat, s.heap.size ≤ q → A q := fun q h => by rw [← hAe]; exact Or.inr h
  have hS : va_S A s.heap s.heap [] := va_S.rf
  have hl := lv_entry ([.ref (h 5), .int a1, .int a2] : List Value) (n := 4) (Nat.le_of_ble_eq_true rfl)
  rw [lg_entry_eq]
  generalize (lg_sl ([.ref (h 5), .int a1, .int a2] : List Value) ++ List.replicate (4 - (lg_sl ([.ref (h 5), .int a1, .int a2] : List Value)).length) Slot.unset).toArray = ls at hl ⊢
  have hl : lv_has ls 4 [(0, .ref (h 5)), (1, .int (a1)), (2, .int (a2))] := hl
  unfold f_V_travel at hF
  obtain ⟨H, hHe⟩ : ∃ H, H = s.heap := ⟨_, rfl⟩
  obtain ⟨locs, hLe⟩ : ∃ L : List Loc, L = [] := ⟨_, rfl⟩
  rw [← hHe] at hP ⊢
  rw [← hLe]
  have hS : va_S A s.heap H locs := by rw [hHe, hLe]; exact hS
  refine lv_aload_n hx hb d_V_travel_0 rfl (lv_at hl 0 rfl) ?_
  refine lv_iload_n hx hb d_V_travel_1 rfl (lv_at hl 1 rfl) ?_
  refine lv_iload_n hx hb d_V_travel_2 rfl (lv_at hl 2 rfl) ?_
  obtain ⟨r1, u2, hX, hF⟩ := qs_bn_some hF
  refine qs_ci (Wd := qs_W h c) (isC := [0, 1, 2, 3, 4, 5, 6, 7, 8, 9, 10, 11, 12, 13, 14, 15, 16]) (va_runV (own := "QuakeServer$Mover") (C := "QuakeServer$Mover") (As := [.int (a1), .int (a2)]) (rest := []) ⟨hx, hb, hml, hown, hg⟩ (c_V_go l dC dI h c H.size g (a1) (a2) r1 u2 hX) (cwV 2 hg (qs_gV t_521 t_523 tp_9 t_6 t_524) rfl rfl rfl (by decide +kernel) ⟨Nat.le_of_ble_eq_true rfl, Nat.le_of_ble_eq_true rfl⟩) ⟨qs_blind, va_recv hK hP (ci := 4) (q0 := 5) rfl rfl, fun U hU hW => ⟨rfl, by rw [hU], by rw [hU]; exact hP, va_K.moved hW.alike hK, hD.weaken (fun _ _ _ _ => trivial), hNs.warm hW⟩⟩ rfl rfl hl.1 rfl (lv_room (Nat.le_of_ble_eq_true rfl)) d_V_travel_3 ⟨Nat.le_of_ble_eq_true rfl, Nat.le_of_ble_eq_true rfl⟩) rfl hP hD hS hA (fun H locs hP hD hS => ?_)
  refine lv_istore_n (lv' := [(3, .int (r1)), (0, .ref (h 5)), (1, .int (a1)), (2, .int (a2))]) hx hb d_V_travel_6 rfl hl (by decide) rfl (fun ls hl => ?_)
  refine lv_iload_n hx hb d_V_travel_7 rfl (lv_at hl 0 rfl) ?_
  refine lv_bipush (v := (-2)) hx hb d_V_travel_8 (by decide) ?_
  refine lv_icmp_ne (tgt := 14) hx hb d_V_travel_10 (by decide) (fun c3 => ?_) (fun c3 => ?_)
  · have hF := qs_neg c3 hF
    refine lv_aload_n hx hb d_V_travel_14 rfl (lv_at hl 1 rfl) ?_
    refine lv_dup hx hb d_V_travel_15 rfl ?_
    refine va_get (D := (dC, dI)) (ci := 4) (v := .int (u2 27 0)) (C := R_V) (T := T_V) (N := 6) hx hb hg in_V hown hK hP 5 rfl rfl 3 (by decide) (hg _ t_126) (fun _ h9 => h9) rfl d_V_travel_16 ?_
    refine lv_iconst (v := 1) hx hb d_V_travel_19 (by decide) ?_
    refine lv_iadd hx hb d_V_travel_20 ?_
    refine va_put (D := (dC, dI)) (ci := 4) (v := .int ((u2 27 0) + 1)) (ty := .int) (C := R_V) (T := T_V) (N := 6) hx hb hg in_V ty_V ty_V_ok nm_V hown hK hP hD hS 5 rfl rfl 3 (by decide) (hg _ t_126) (fun _ h9 => h9) rfl (by decide +kernel) rfl rfl (Nat.le_of_ble_eq_true rfl) d_V_travel_21 (fun H locs hP hD hS => ?_)
    obtain ⟨u4, hu4, hF⟩ := qs_st_some hF
    have hP : va_P (dC, dI) vwCl (qs_W h c u4) H := by rw [hu4]; exact hP
    have hD : va_D A (qs_W h c u4) := by rw [hu4]; exact hD
    clear hu4
    refine lv_aload_n hx hb d_V_travel_24 rfl (lv_at hl 1 rfl) ?_
    refine va_get (D := (dC, dI)) (ci := 4) (v := .ref (h 4)) (C := R_V) (T := T_V) (N := 6) hx hb hg in_V hown hK hP 5 rfl rfl 2 (by decide) (hg _ t_125) (fun _ h9 => h9) rfl d_V_travel_25 ?_
    refine lv_aload_n hx hb d_V_travel_28 rfl (lv_at hl 1 rfl) ?_
    refine va_get (D := (dC, dI)) (ci := 4) (v := .ref (h 1)) (C := R_V) (T := T_V) (N := 6) hx hb hg in_V hown hK hP 5 rfl rfl 0 (by decide) (hg _ t_123) (fun _ h9 => h9) rfl d_V_travel_29 ?_
    refine lv_iload_n hx hb d_V_travel_32 rfl (lv_at hl 2 rfl) ?_
    refine lv_bipush (v := 8) hx hb d_V_travel_33 (by decide) ?_
    obtain ⟨r5, u6, hX, hF⟩ := qs_bn_some hF
    refine qs_ci (Wd := qs_W h c) (isC := [0, 1, 2, 3, 4, 5, 6, 7, 8, 9, 10, 11, 12, 13, 14, 15, 16]) (va_runV (own := "QuakeServer$Mover") (C := "QuakeServer$Entities") (As := [.int (a1), .int (8)]) (rest := [.ref (h 4)]) ⟨hx, hb, hml, hown, hg⟩ (c_E_wholeField l dC dI h c H.size u4 (a1) (8) r5 u6 hX) (cwV 2 hg (qs_gV t_508 t_509 t_510 t_2 t_511) rfl rfl rfl (by decide +kernel) ⟨Nat.le_of_ble_eq_true rfl, Nat.le_of_ble_eq_true rfl⟩) ⟨qs_blind, va_recv hK hP (ci := 0) (q0 := 1) rfl rfl, fun U hU hW => ⟨rfl, by rw [hU], by rw [hU]; exact hP, va_K.moved hW.alike hK, hD.weaken (fun _ _ _ _ => trivial), hNs.warm hW⟩⟩ rfl rfl hl.1 rfl (lv_room (Nat.le_of_ble_eq_true rfl)) d_V_travel_35 ⟨Nat.le_of_ble_eq_true rfl, Nat.le_of_ble_eq_true rfl⟩) rfl hP hD hS hA (fun H locs hP hD hS => ?_)
    refine lv_iconst (v := 1) hx hb d_V_travel_38 (by decide) ?_
    refine lv_isub hx hb d_V_travel_39 ?_
    refine lv_iload_n hx hb d_V_travel_40 rfl (lv_at hl 2 rfl) ?_
    refine lv_iload_n hx hb d_V_travel_41 rfl (lv_at hl 0 rfl) ?_
    obtain ⟨r7, u8, hX, hF⟩ := qs_bn_some hF
    refine qs_ci (Wd := qs_W h c) (isC := [0, 1, 2, 3, 4, 5, 6, 7, 8, 9, 10, 11, 12, 13, 14, 15, 16]) (va_runV (own := "QuakeServer$Mover") (C := "QuakeServer$Machine") (As := [.int (r5 - 1), .int (a1), .int (r1)]) (rest := []) ⟨hx, hb, hml, hown, hg⟩ (c_M_start l dC dI h c H.size u6 (r5 - 1) (a1) (r1) r7 u8 hX) (cwV 3 hg (qs_gV t_578 t_438 t_439 t_5 t_440) rfl rfl rfl (by decide +kernel) ⟨Nat.le_of_ble_eq_true rfl, Nat.le_of_ble_eq_true rfl⟩) ⟨qs_blind, va_recv hK hP (ci := 3) (q0 := 4) rfl rfl, fun U hU hW => ⟨rfl, by rw [hU], by rw [hU]; exact hP, va_K.moved hW.alike hK, hD.weaken (fun _ _ _ _ => trivial), hNs.warm hW⟩⟩ rfl rfl hl.1 rfl (lv_room (Nat.le_of_ble_eq_true rfl)) d_V_travel_42 ⟨Nat.le_of_ble_eq_true rfl, Nat.le_of_ble_eq_true rfl⟩) rfl hP hD hS hA (fun H locs hP hD hS => ?_)
    refine lv_pop hx hb d_V_travel_45 rfl ?_
    refine lv_aload_n hx hb d_V_travel_46 rfl (lv_at hl 1 rfl) ?_
    refine va_get (D := (dC, dI)) (ci := 4) (v := .ref (h 1)) (C := R_V) (T := T_V) (N := 6) hx hb hg in_V hown hK hP 5 rfl rfl 0 (by decide) (hg _ t_123) (fun _ h9 => h9) rfl d_V_travel_47 ?_
    refine lv_iload_n hx hb d_V_travel_50 rfl (lv_at hl 0 rfl) ?_
    obtain ⟨r9, u10, hX, hF⟩ := qs_bn_some hF
    refine qs_ci (Wd := qs_W h c) (isC := [0, 1, 2, 3, 4, 5, 6, 7, 8, 9, 10, 11, 12, 13, 14, 15, 16]) (va_runV (own := "QuakeServer$Mover") (C := "QuakeServer$Entities") (As := [.int (r1)]) (rest := []) ⟨hx, hb, hml, hown, hg⟩ (c_E_isThere l dC dI h c H.size u8 (r1) r9 u10 hX) (cwV 1 hg (qs_gV t_579 t_188 t_189 t_2 t_190) rfl rfl rfl (by decide +kernel) ⟨Nat.le_of_ble_eq_true rfl, Nat.le_of_ble_eq_true rfl⟩) ⟨qs_blind, va_recv hK hP (ci := 0) (q0 := 1) rfl rfl, fun U hU hW => ⟨rfl, by rw [hU], by rw [hU]; exact hP, va_K.moved hW.alike hK, hD.weaken (fun _ _ _ _ => trivial), hNs.warm hW⟩⟩ rfl rfl hl.1 rfl (lv_room (Nat.le_of_ble_eq_true rfl)) d_V_travel_51 ⟨Nat.le_of_ble_eq_true rfl, Nat.le_of_ble_eq_true rfl⟩) rfl hP hD hS hA (fun H locs hP hD hS => ?_)
    refine lv_if_eq (tgt := 90) hx hb d_V_travel_54 (by decide) (fun c11 => ?_) (fun c11 => ?_)
    · have hF := qs_pos c11 hF
      obtain ⟨h8, h9⟩ := qs_ret hF
      exact W.vret hx hb hr (fun t ht hW => ⟨⟨u10, rfl, h9, by rw [ht]; exact hP, va_K.moved hW.alike hK, hD⟩, hS.F ht⟩) hS.2.2 d_V_travel_90
    · have hF := qs_neg c11 hF
      refine lv_aload_n hx hb d_V_travel_57 rfl (lv_at hl 1 rfl) ?_
      refine va_get (D := (dC, dI)) (ci := 4) (v := .ref (h 1)) (C := R_V) (T := T_V) (N := 6) hx hb hg in_V hown hK hP 5 rfl rfl 0 (by decide) (hg _ t_123) (fun _ h9 => h9) rfl d_V_travel_58 ?_
      refine lv_iload_n hx hb d_V_travel_61 rfl (lv_at hl 2 rfl) ?_
      obtain ⟨r12, u13, hX, hF⟩ := qs_bn_some hF
      refine qs_ci (Wd := qs_W h c) (isC := [0, 1, 2, 3, 4, 5, 6, 7, 8, 9, 10, 11, 12, 13, 14, 15, 16]) (va_runV (own := "QuakeServer$Mover") (C := "QuakeServer$Entities") (As := [.int (a1)]) (rest := []) ⟨hx, hb, hml, hown, hg⟩ (c_E_isThere l dC dI h c H.size u10 (a1) r12 u13 hX) (cwV 1 hg (qs_gV t_579 t_188 t_189 t_2 t_190) rfl rfl rfl (by decide +kernel) ⟨Nat.le_of_ble_eq_true rfl, Nat.le_of_ble_eq_true rfl⟩) ⟨qs_blind, va_recv hK hP (ci := 0) (q0 := 1) rfl rfl, fun U hU hW => ⟨rfl, by rw [hU], by rw [hU]; exact hP, va_K.moved hW.alike hK, hD.weaken (fun _ _ _ _ => trivial), hNs.warm hW⟩⟩ rfl rfl hl.1 rfl (lv_room (Nat.le_of_ble_eq_true rfl)) d_V_travel_62 ⟨Nat.le_of_ble_eq_true rfl, Nat.le_of_ble_eq_true rfl⟩) rfl hP hD hS hA (fun H locs hP hD hS => ?_)
      refine lv_if_eq (tgt := 90) hx hb d_V_travel_65 (by decide) (fun c14 => ?_) (fun c14 => ?_)
      · have hF := qs_pos c14 hF
        obtain ⟨h8, h9⟩ := qs_ret hF
        exact W.vret hx hb hr (fun t ht hW => ⟨⟨u13, rfl, h9, by rw [ht]; exact hP, va_K.moved hW.alike hK, hD⟩, hS.F ht⟩) hS.2.2 d_V_travel_90
      · have hF := qs_neg c14 hF
        refine lv_aload_n hx hb d_V_travel_68 rfl (lv_at hl 1 rfl) ?_
        refine va_get (D := (dC, dI)) (ci := 4) (v := .ref (h 4)) (C := R_V) (T := T_V) (N := 6) hx hb hg in_V hown hK hP 5 rfl rfl 2 (by decide) (hg _ t_125) (fun _ h9 => h9) rfl d_V_travel_69 ?_
        refine lv_aload_n hx hb d_V_travel_72 rfl (lv_at hl 1 rfl) ?_
        refine va_get (D := (dC, dI)) (ci := 4) (v := .ref (h 1)) (C := R_V) (T := T_V) (N := 6) hx hb hg in_V hown hK hP 5 rfl rfl 0 (by decide) (hg _ t_123) (fun _ h9 => h9) rfl d_V_travel_73 ?_
        refine lv_iload_n hx hb d_V_travel_76 rfl (lv_at hl 0 rfl) ?_
        refine lv_bipush (v := 8) hx hb d_V_travel_77 (by decide) ?_
        obtain ⟨r15, u16, hX, hF⟩ := qs_bn_some hF
        refine qs_ci (Wd := qs_W h c) (isC := [0, 1, 2, 3, 4, 5, 6, 7, 8, 9, 10, 11, 12, 13, 14, 15, 16]) (va_runV (own := "QuakeServer$Mover") (C := "QuakeServer$Entities") (As := [.int (r1), .int (8)]) (rest := [.ref (h 4)]) ⟨hx, hb, hml, hown, hg⟩ (c_E_wholeField l dC dI h c H.size u13 (r1) (8) r15 u16 hX) (cwV 2 hg (qs_gV t_508 t_509 t_510 t_2 t_511) rfl rfl rfl (by decide +kernel) ⟨Nat.le_of_ble_eq_true rfl, Nat.le_of_ble_eq_true rfl⟩) ⟨qs_blind, va_recv hK hP (ci := 0) (q0 := 1) rfl rfl, fun U hU hW => ⟨rfl, by rw [hU], by rw [hU]; exact hP, va_K.moved hW.alike hK, hD.weaken (fun _ _ _ _ => trivial), hNs.warm hW⟩⟩ rfl rfl hl.1 rfl (lv_room (Nat.le_of_ble_eq_true rfl)) d_V_travel_79 ⟨Nat.le_of_ble_eq_true rfl, Nat.le_of_ble_eq_true rfl⟩) rfl hP hD hS hA (fun H locs hP hD hS => ?_)
        refine lv_iconst (v := 1) hx hb d_V_travel_82 (by decide) ?_
        refine lv_isub hx hb d_V_travel_83 ?_
        refine lv_iload_n hx hb d_V_travel_84 rfl (lv_at hl 0 rfl) ?_
        refine lv_iload_n hx hb d_V_travel_85 rfl (lv_at hl 2 rfl) ?_
        obtain ⟨r17, u18, hX, hF⟩ := qs_bn_some hF
        refine qs_ci (Wd := qs_W h c) (isC := [0, 1, 2, 3, 4, 5, 6, 7, 8, 9, 10, 11, 12, 13, 14, 15, 16]) (va_runV (own := "QuakeServer$Mover") (C := "QuakeServer$Machine") (As := [.int (r15 - 1), .int (r1), .int (a1)]) (rest := []) ⟨hx, hb, hml, hown, hg⟩ (c_M_start l dC dI h c H.size u16 (r15 - 1) (r1) (a1) r17 u18 hX) (cwV 3 hg (qs_gV t_578 t_438 t_439 t_5 t_440) rfl rfl rfl (by decide +kernel) ⟨Nat.le_of_ble_eq_true rfl, Nat.le_of_ble_eq_true rfl⟩) ⟨qs_blind, va_recv hK hP (ci := 3) (q0 := 4) rfl rfl, fun U hU hW => ⟨rfl, by rw [hU], by rw [hU]; exact hP, va_K.moved hW.alike hK, hD.weaken (fun _ _ _ _ => trivial), hNs.warm hW⟩⟩ rfl rfl hl.1 rfl (lv_room (Nat.le_of_ble_eq_true rfl)) d_V_travel_86 ⟨Nat.le_of_ble_eq_true rfl, Nat.le_of_ble_eq_true rfl⟩) rfl hP hD hS hA (fun H locs hP hD hS => ?_)
        refine lv_pop hx hb d_V_travel_89 rfl ?_
        obtain ⟨h8, h9⟩ := qs_ret hF
        exact W.vret hx hb hr (fun t ht hW => ⟨⟨u18, rfl, h9, by rw [ht]; exact hP, va_K.moved hW.alike hK, hD⟩, hS.F ht⟩) hS.2.2 d_V_travel_90
  · have hF := qs_pos c3 hF
    obtain ⟨h8, h9⟩ := qs_ret hF
    exact W.vret hx hb hr (fun t ht hW => ⟨⟨u2, rfl, h9, by rw [ht]; exact hP, va_K.moved hW.alike hK, hD⟩, hS.F ht⟩) hS.2.2 d_V_travel_13

theorem d_V_touchTriggers_0 : decode b_V_touchTriggers 0 = .ok (.aload_n 0, 1) := by decide +kernel
theorem d_V_touchTriggers_1 : decode b_V_touchTriggers 1 = .ok (.getfield 9, 3) := by decide +kernel
theorem d_V_touchTriggers_4 : decode b_V_touchTriggers 4 = .ok (.iload_n 1, 1) := by decide +kernel
theorem d_V_touchTriggers_5 : decode b_V_touchTriggers 5 = .ok (.iconst 5, 1) := by decide +kernel
theorem d_V_touchTriggers_6 : decode b_V_touchTriggers 6 = .ok (.invokevirtual 23, 3) := by decide +kernel
theorem d_V_touchTriggers_9 : decode b_V_touchTriggers 9 = .ok (.iconst 1, 1) := by decide +kernel
theorem d_V_touchTriggers_10 : decode b_V_touchTriggers 10 = .ok (.if_icmp .ne 4, 3) := by decide +kernel
theorem d_V_touchTriggers_13 : decode b_V_touchTriggers 13 = .ok (.return_, 1) := by decide +kernel
theorem d_V_touchTriggers_14 : decode b_V_touchTriggers 14 = .ok (.iconst 0, 1) := by decide +kernel
theorem d_V_touchTriggers_15 : decode b_V_touchTriggers 15 = .ok (.istore_n 2, 1) := by decide +kernel
theorem d_V_touchTriggers_16 : decode b_V_touchTriggers 16 = .ok (.iload_n 2, 1) := by decide +kernel
theorem d_V_touchTriggers_17 : decode b_V_touchTriggers 17 = .ok (.bipush 12, 2) := by decide +kernel
theorem d_V_touchTriggers_19 : decode b_V_touchTriggers 19 = .ok (.if_icmp .ge 86, 3) := by decide +kernel
theorem d_V_touchTriggers_22 : decode b_V_touchTriggers 22 = .ok (.aload_n 0, 1) := by decide +kernel
theorem d_V_touchTriggers_23 : decode b_V_touchTriggers 23 = .ok (.getfield 9, 3) := by decide +kernel
theorem d_V_touchTriggers_26 : decode b_V_touchTriggers 26 = .ok (.iload_n 1, 1) := by decide +kernel
theorem d_V_touchTriggers_27 : decode b_V_touchTriggers 27 = .ok (.invokevirtual 64, 3) := by decide +kernel
theorem d_V_touchTriggers_30 : decode b_V_touchTriggers 30 = .ok (.ifCond .eq 75, 3) := by decide +kernel
theorem d_V_touchTriggers_33 : decode b_V_touchTriggers 33 = .ok (.iload_n 2, 1) := by decide +kernel
theorem d_V_touchTriggers_34 : decode b_V_touchTriggers 34 = .ok (.iload_n 1, 1) := by decide +kernel
theorem d_V_touchTriggers_35 : decode b_V_touchTriggers 35 = .ok (.if_icmp .eq 64, 3) := by decide +kernel
theorem d_V_touchTriggers_38 : decode b_V_touchTriggers 38 = .ok (.aload_n 0, 1) := by decide +kernel
theorem d_V_touchTriggers_39 : decode b_V_touchTriggers 39 = .ok (.getfield 9, 3) := by decide +kernel
theorem d_V_touchTriggers_42 : decode b_V_touchTriggers 42 = .ok (.iload_n 2, 1) := by decide +kernel
theorem d_V_touchTriggers_43 : decode b_V_touchTriggers 43 = .ok (.iconst 5, 1) := by decide +kernel
theorem d_V_touchTriggers_44 : decode b_V_touchTriggers 44 = .ok (.invokevirtual 23, 3) := by decide +kernel
theorem d_V_touchTriggers_47 : decode b_V_touchTriggers 47 = .ok (.iconst 1, 1) := by decide +kernel
theorem d_V_touchTriggers_48 : decode b_V_touchTriggers 48 = .ok (.if_icmp .ne 51, 3) := by decide +kernel
theorem d_V_touchTriggers_51 : decode b_V_touchTriggers 51 = .ok (.aload_n 0, 1) := by decide +kernel
theorem d_V_touchTriggers_52 : decode b_V_touchTriggers 52 = .ok (.getfield 9, 3) := by decide +kernel
theorem d_V_touchTriggers_55 : decode b_V_touchTriggers 55 = .ok (.iload_n 2, 1) := by decide +kernel
theorem d_V_touchTriggers_56 : decode b_V_touchTriggers 56 = .ok (.iload_n 1, 1) := by decide +kernel
theorem d_V_touchTriggers_57 : decode b_V_touchTriggers 57 = .ok (.iconst 0, 1) := by decide +kernel
theorem d_V_touchTriggers_58 : decode b_V_touchTriggers 58 = .ok (.invokevirtual 110, 3) := by decide +kernel
theorem d_V_touchTriggers_61 : decode b_V_touchTriggers 61 = .ok (.ifCond .eq 38, 3) := by decide +kernel
theorem d_V_touchTriggers_64 : decode b_V_touchTriggers 64 = .ok (.aload_n 0, 1) := by decide +kernel
theorem d_V_touchTriggers_65 : decode b_V_touchTriggers 65 = .ok (.getfield 9, 3) := by decide +kernel
theorem d_V_touchTriggers_68 : decode b_V_touchTriggers 68 = .ok (.iload_n 2, 1) := by decide +kernel
theorem d_V_touchTriggers_69 : decode b_V_touchTriggers 69 = .ok (.iload_n 1, 1) := by decide +kernel
theorem d_V_touchTriggers_70 : decode b_V_touchTriggers 70 = .ok (.iconst 1, 1) := by decide +kernel
theorem d_V_touchTriggers_71 : decode b_V_touchTriggers 71 = .ok (.invokevirtual 110, 3) := by decide +kernel
theorem d_V_touchTriggers_74 : decode b_V_touchTriggers 74 = .ok (.ifCond .eq 25, 3) := by decide +kernel
theorem d_V_touchTriggers_77 : decode b_V_touchTriggers 77 = .ok (.aload_n 0, 1) := by decide +kernel
theorem d_V_touchTriggers_78 : decode b_V_touchTriggers 78 = .ok (.getfield 19, 3) := by decide +kernel
theorem d_V_touchTriggers_81 : decode b_V_touchTriggers 81 = .ok (.aload_n 0, 1) := by decide +kernel
theorem d_V_touchTriggers_82 : decode b_V_touchTriggers 82 = .ok (.getfield 9, 3) := by decide +kernel
theorem d_V_touchTriggers_85 : decode b_V_touchTriggers 85 = .ok (.iload_n 2, 1) := by decide +kernel
theorem d_V_touchTriggers_86 : decode b_V_touchTriggers 86 = .ok (.bipush 8, 2) := by decide +kernel
theorem d_V_touchTriggers_88 : decode b_V_touchTriggers 88 = .ok (.invokevirtual 23, 3) := by decide +kernel
theorem d_V_touchTriggers_91 : decode b_V_touchTriggers 91 = .ok (.iconst 1, 1) := by decide +kernel
theorem d_V_touchTriggers_92 : decode b_V_touchTriggers 92 = .ok (.isub, 1) := by decide +kernel
theorem d_V_touchTriggers_93 : decode b_V_touchTriggers 93 = .ok (.iload_n 2, 1) := by decide +kernel
theorem d_V_touchTriggers_94 : decode b_V_touchTriggers 94 = .ok (.iload_n 1, 1) := by decide +kernel
theorem d_V_touchTriggers_95 : decode b_V_touchTriggers 95 = .ok (.invokevirtual 58, 3) := by decide +kernel
theorem d_V_touchTriggers_98 : decode b_V_touchTriggers 98 = .ok (.pop, 1) := by decide +kernel
theorem d_V_touchTriggers_99 : decode b_V_touchTriggers 99 = .ok (.iinc 2 1, 3) := by decide +kernel
theorem d_V_touchTriggers_102 : decode b_V_touchTriggers 102 = .ok (.goto (-86), 3) := by decide +kernel
theorem d_V_touchTriggers_105 : decode b_V_touchTriggers 105 = .ok (.return_, 1) := by decide +kernel
def f_V_touchTriggers_99 (k16 : Sg → Int32 → Int32 → Option (Unit × Sg)) (g : Sg) (x1 : Int32) (x2 : Int32) : Option (Unit × Sg) := (k16 g (x1) (x2 + 1))
def f_V_touchTriggers_16  : Nat → Sg → Int32 → Int32 → Option (Unit × Sg)
  | 0, _, _, _ => none
  | n + 1, g, x1, x2 => (if 12 ≤ x2 then (some ((), g)) else (qs_bn (f_E_isThere g (x1)) fun r5 u6 => (if r5 = 0 then (some ((), u6)) else (if x2 = x1 then (f_V_touchTriggers_99 (fun g x1 x2 => f_V_touchTriggers_16  n g x1 x2) u6 (x1) (x2)) else (qs_bn (f_E_wholeField u6 (x2) (5)) fun r9 u10 => (if r9 = 1 then (qs_bn (f_E_boxesOverlap u10 (x2) (x1) (0)) fun r12 u13 => (if r12 = 0 then (f_V_touchTriggers_99 (fun g x1 x2 => f_V_touchTriggers_16  n g x1 x2) u13 (x1) (x2)) else (qs_bn (f_E_boxesOverlap u13 (x2) (x1) (1)) fun r15 u16 => (if r15 = 0 then (f_V_touchTriggers_99 (fun g x1 x2 => f_V_touchTriggers_16  n g x1 x2) u16 (x1) (x2)) else (qs_bn (f_E_wholeField u16 (x2) (8)) fun r18 u19 => (qs_bn (f_M_start u19 (r18 - 1) (x2) (x1)) fun r20 u21 => (f_V_touchTriggers_99 (fun g x1 x2 => f_V_touchTriggers_16  n g x1 x2) u21 (x1) (x2)))))))) else (f_V_touchTriggers_99 (fun g x1 x2 => f_V_touchTriggers_16  n g x1 x2) u10 (x1) (x2))))))))
def f_V_touchTriggers (g : Sg) (a1 : Int32) : Option (Unit × Sg) := (qs_bn (f_E_wholeField g (a1) (5)) fun r1 u2 => (if r1 = 1 then (some ((), u2)) else (f_V_touchTriggers_16 200 u2 (a1) (0))))
set_option maxHeartbeats 4000000 in
set_option maxRecDepth 100000 in
theorem c_V_touchTriggers (l : Launch) (dC : Nat → ClassId) (dI : Nat → Nat → Nat) (h : Nat → Nat) (c : Nat → ClassId) (sz : Nat) (g : Sg) (a1 : Int32) (u0 : Sg) (hF : f_V_touchTriggers g a1 = some ((), u0)) : Met l y_V_touchTriggers (qs_ws y_V_touchTriggers b_V_touchTriggers 3 none) ({ frames := 5, cells := 0, slots := 0, locals := 121 } : Room) (va_Pc ([.ref (h 5), .int a1] : List Value) (fun U => U.heap.size = sz ∧ va_P (dC, dI) vwCl (qs_W h c g) U.heap ∧ va_K (dC, dI) vwCl (qs_T c) U ∧ va_D (fun _ => True) (qs_W h c g) ∧ qs_N U)) (va_Qv (fun (u : Sg) => u = u0) (qs_at dC dI h c (va_A (qs_W h c g) sz)) (va_A (qs_W h c g) sz)) 0 0 (va_A (qs_W h c g) sz) := by
  refine Met.ofW (cc := b_V_touchTriggers) (maxL := 3) (ret := none) (by decide +kernel) rfl ?_
  intro p e s m args below meth cd s₁ B hml hv
  obtain ⟨rfl, hsz, hP, hK, hD0, hNs⟩ := hv
  have hx := B.exec
  have hb := B.bytes
  have hr := B.returns
  have hts := atoms_spec (ws := (qs_ws y_V_touchTriggers b_V_touchTriggers 3 none)) B.pre
  have hg : ∀ w ∈ qs_gt, w.before _ s = true := fun w h => hts w (List.mem_cons_of_mem _ h)
  have hown : s.vm.findClass R_V = some m.cls := findClass_of_methodNamed B.named
  have hlocks := B.notSynchronized
  subst hsz
  have hD := hD0.self (sz := s.heap.size)
  generalize hAe : va_A (qs_W h c g) s.heap.size = A at hD ⊢
  have hA : ∀ q : Nat, s.heap.size ≤ q → A q := fun q h => by rw [← hAe]; exact Or.inr h
  have hS : va_S A s.heap s.heap [] := va_S.rf
  have kb_99 : ∀ (k16 : Sg → Int32 → Int32 → Option (Unit × Sg)), (∀ (g : Sg) (x1 : Int32) (x2 : Int32) (H : Heap) (locs : List Loc) (ls : Array Slot), va_P (dC, dI) vwCl (qs_W h c g) H → va_D A (qs_W h c g) → va_S A s.heap H locs → lv_has ls 3 [(0, .ref (h 5)), (1, .int (x1)), (2, .int (x2))] → k16 g x1 x2 = some ((), u0) → W p l e (headSpec (qs_ws y_V_touchTriggers b_V_touchTriggers 3 none) ({ frames := 5, cells := 0, slots := 0, locals := 121 } : Room)).room s m ([.ref (h 5), .int a1] : List Value).toArray below meth cd H locs 0 0 (MQ below (va_Qv (fun (u : Sg) => u = u0) (qs_at dC dI h c A) A) ([.ref (h 5), .int a1] : List Value).toArray s 0 0 A) (F0 m 16 ls [])) → ∀ (g : Sg) (x1 : Int32) (x2 : Int32) (H : Heap) (locs : List Loc) (ls : Array Slot), va_P (dC, dI) vwCl (qs_W h c g) H → va_D A (qs_W h c g) → va_S A s.heap H locs → lv_has ls 3 [(0, .ref (h 5)), (1, .int (x1)), (2, .int (x2))] → f_V_touchTriggers_99 k16  g x1 x2 = some ((), u0) → W p l e (headSpec (qs_ws y_V_touchTriggers b_V_touchTriggers 3 none) ({ frames := 5, cells := 0, slots := 0, locals := 121 } : Room)).room s m ([.ref (h 5), .int a1] : List Value).toArray below meth cd H locs 0 0 (MQ below (va_Qv (fun (u : Sg) => u = u0) (qs_at dC dI h c A) A) ([.ref (h 5), .int a1] : List Value).toArray s 0 0 A) (F0 m 99 ls []) := by
    intro k16 hk16
    intro g x1 x2 H locs ls hP hD hS hl hF
    unfold f_V_touchTriggers_99 at hF
    refine lv_iinc (v := x2 + 1) (lv' := [(2, .int (x2 + 1)), (0, .ref (h 5)), (1, .int (x1))]) hx hb d_V_touchTriggers_99 hl (k := 2) rfl (by rfl) (by decide) rfl (fun ls hl => ?_)
    refine lv_goto (tgt := 16) hx hb d_V_touchTriggers_102 (by decide) ?_
    exact hk16 g (x1) (x2 + 1) H locs ls hP hD hS (lv_sub hl [1, 2, 0] rfl) hF
  have kb_16 : ∀ n : Nat, ∀ (g : Sg) (x1 : Int32) (x2 : Int32) (H : Heap) (locs : List Loc) (ls : Array Slot), va_P (dC, dI) vwCl (qs_W h c g) H → va_D A (qs_W h c g) → va_S A s.heap H locs → lv_has ls 3 [(0, .ref (h 5)), (1, .int (x1)), (2, .int (x2))] → f_V_touchTriggers_16 n g x1 x2 = some ((), u0) → W p l e (headSpec (qs_ws y_V_touchTriggers b_V_touchTriggers 3 none) ({ frames := 5, cells := 0, slots := 0, locals := 121 } : Room)).room s m ([.ref (h 5), .int a1] : List Value).toArray below meth cd H locs 0 0 (MQ below (va_Qv (fun (u : Sg) => u = u0) (qs_at dC dI h c A) A) ([.ref (h 5), .int a1] : List Value).toArray s 0 0 A) (F0 m 16 ls []) := by
    intro n
    induction n with
    | zero =>
      intro g x1 x2 H locs ls hP hD hS hl hF
      exact nomatch (show (none : Option (Unit × Sg)) = some _ from hF)
    | succ n ih =>
      intro g x1 x2 H locs ls hP hD hS hl hF
      rw [f_V_touchTriggers_16] at hF
      refine lv_iload_n hx hb d_V_touchTriggers_16 rfl (lv_at hl 2 rfl) ?_
      refine lv_bipush (v := 12) hx hb d_V_touchTriggers_17 (by decide) ?_
      refine lv_icmp_ge (tgt := 105) hx hb d_V_touchTriggers_19 (by decide) (fun c4 => ?_) (fun c4 => ?_)
      · have hF := qs_pos c4 hF
        obtain ⟨h8, h9⟩ := qs_ret hF
        exact W.vret hx hb hr (fun t ht hW => ⟨⟨g, rfl, h9, by rw [ht]; exact hP, va_K.moved hW.alike hK, hD⟩, hS.F ht⟩) hS.2.2 d_V_touchTriggers_105
      · have hF := qs_neg c4 hF
        refine lv_aload_n hx hb d_V_touchTriggers_22 rfl (lv_at hl 0 rfl) ?_
        refine va_get (D := (dC, dI)) (ci := 4) (v := .ref (h 1)) (C := R_V) (T := T_V) (N := 6) hx hb hg in_V hown hK hP 5 rfl rfl 0 (by decide) (hg _ t_123) (fun _ h9 => h9) rfl d_V_touchTriggers_23 ?_
        refine lv_iload_n hx hb d_V_touchTriggers_26 rfl (lv_at hl 1 rfl) ?_
        obtain ⟨r5, u6, hX, hF⟩ := qs_bn_some hF
        refine qs_ci (Wd := qs_W h c) (isC := [0, 1, 2, 3, 4, 5, 6, 7, 8, 9, 10, 11, 12, 13, 14, 15, 16]) (va_runV (own := "QuakeServer$Mover") (C := "QuakeServer$Entities") (As := [.int (x1)]) (rest := []) ⟨hx, hb, hml, hown, hg⟩ (c_E_isThere l dC dI h c H.size g (x1) r5 u6 hX) (cwV 1 hg (qs_gV t_579 t_188 t_189 t_2 t_190) rfl rfl rfl (by decide +kernel) ⟨Nat.le_of_ble_eq_true rfl, Nat.le_of_ble_eq_true rfl⟩) ⟨qs_blind, va_recv hK hP (ci := 0) (q0 := 1) rfl rfl, fun U hU hW => ⟨rfl, by rw [hU], by rw [hU]; exact hP, va_K.moved hW.alike hK, hD.weaken (fun _ _ _ _ => trivial), hNs.warm hW⟩⟩ rfl rfl hl.1 rfl (lv_room (Nat.le_of_ble_eq_true rfl)) d_V_touchTriggers_27 ⟨Nat.le_of_ble_eq_true rfl, Nat.le_of_ble_eq_true rfl⟩) rfl hP hD hS hA (fun H locs hP hD hS => ?_)
        refine lv_if_eq (tgt := 105) hx hb d_V_touchTriggers_30 (by decide) (fun c7 => ?_) (fun c7 => ?_)
        · have hF := qs_pos c7 hF
          obtain ⟨h8, h9⟩ := qs_ret hF
          exact W.vret hx hb hr (fun t ht hW => ⟨⟨u6, rfl, h9, by rw [ht]; exact hP, va_K.moved hW.alike hK, hD⟩, hS.F ht⟩) hS.2.2 d_V_touchTriggers_105
        · have hF := qs_neg c7 hF
          refine lv_iload_n hx hb d_V_touchTriggers_33 rfl (lv_at hl 2 rfl) ?_
          refine lv_iload_n hx hb d_V_touchTriggers_34 rfl (lv_at hl 1 rfl) ?_
          refine lv_icmp_eq (tgt := 99) hx hb d_V_touchTriggers_35 (by decide) (fun c8 => ?_) (fun c8 => ?_)
          · have hF := qs_pos c8 hF
            exact kb_99 _ ih u6 (x1) (x2) H locs ls hP hD hS (lv_sub hl [0, 1, 2] rfl) hF
          · have hF := qs_neg c8 hF
            refine lv_aload_n hx hb d_V_touchTriggers_38 rfl (lv_at hl 0 rfl) ?_
            refine va_get (D := (dC, dI)) (ci := 4) (v := .ref (h 1)) (C := R_V) (T := T_V) (N := 6) hx hb hg in_V hown hK hP 5 rfl rfl 0 (by decide) (hg _ t_123) (fun _ h9 => h9) rfl d_V_touchTriggers_39 ?_
            refine lv_iload_n hx hb d_V_touchTriggers_42 rfl (lv_at hl 2 rfl) ?_
            refine lv_iconst (v := 5) hx hb d_V_touchTriggers_43 (by decide) ?_
            obtain ⟨r9, u10, hX, hF⟩ := qs_bn_some hF
            refine qs_ci (Wd := qs_W h c) (isC := [0, 1, 2, 3, 4, 5, 6, 7, 8, 9, 10, 11, 12, 13, 14, 15, 16]) (va_runV (own := "QuakeServer$Mover") (C := "QuakeServer$Entities") (As := [.int (x2), .int (5)]) (rest := []) ⟨hx, hb, hml, hown, hg⟩ (c_E_wholeField l dC dI h c H.size u6 (x2) (5) r9 u10 hX) (cwV 2 hg (qs_gV t_508 t_509 t_510 t_2 t_511) rfl rfl rfl (by decide +kernel) ⟨Nat.le_of_ble_eq_true rfl, Nat.le_of_ble_eq_true rfl⟩) ⟨qs_blind, va_recv hK hP (ci := 0) (q0 := 1) rfl rfl, fun U hU hW => ⟨rfl, by rw [hU], by rw [hU]; exact hP, va_K.moved hW.alike hK, hD.weaken (fun _ _ _ _ => trivial), hNs.warm hW⟩⟩ rfl rfl hl.1 rfl (lv_room (Nat.le_of_ble_eq_true rfl)) d_V_touchTriggers_44 ⟨Nat.le_of_ble_eq_true rfl, Nat.le_of_ble_eq_true rfl⟩) rfl hP hD hS hA (fun H locs hP hD hS => ?_)
            refine lv_iconst (v := 1) hx hb d_V_touchTriggers_47 (by decide) ?_
            refine lv_icmp_ne (tgt := 99) hx hb d_V_touchTriggers_48 (by decide) (fun c11 => ?_) (fun c11 => ?_)
            · have hF := qs_neg c11 hF
              exact kb_99 _ ih u10 (x1) (x2) H locs ls hP hD hS (lv_sub hl [0, 1, 2] rfl) hF
            · have hF := qs_pos c11 hF
              refine lv_aload_n hx hb d_V_touchTriggers_51 rfl (lv_at hl 0 rfl) ?_
              refine va_get (D := (dC, dI)) (ci := 4) (v := .ref (h 1)) (C := R_V) (T := T_V) (N := 6) hx hb hg in_V hown hK hP 5 rfl rfl 0 (by decide) (hg _ t_123) (fun _ h9 => h9) rfl d_V_touchTriggers_52 ?_
              refine lv_iload_n hx hb d_V_touchTriggers_55 rfl (lv_at hl 2 rfl) ?_
              refine lv_iload_n hx hb d_V_touchTriggers_56 rfl (lv_at hl 1 rfl) ?_
              refine lv_iconst (v := 0) hx hb d_V_touchTriggers_57 (by decide) ?_
              obtain ⟨r12, u13, hX, hF⟩ := qs_bn_some hF
              refine qs_ci (Wd := qs_W h c) (isC := [0, 1, 2, 3, 4, 5, 6, 7, 8, 9, 10, 11, 12, 13, 14, 15, 16]) (va_runV (own := "QuakeServer$Mover") (C := "QuakeServer$Entities") (As := [.int (x2), .int (x1), .int (0)]) (rest := []) ⟨hx, hb, hml, hown, hg⟩ (c_E_boxesOverlap l dC dI h c H.size u10 (x2) (x1) (0) r12 u13 hX) (cwV 3 hg (qs_gV t_573 t_574 t_575 t_2 t_576) rfl rfl rfl (by decide +kernel) ⟨Nat.le_of_ble_eq_true rfl, Nat.le_of_ble_eq_true rfl⟩) ⟨qs_blind, va_recv hK hP (ci := 0) (q0 := 1) rfl rfl, fun U hU hW => ⟨rfl, by rw [hU], by rw [hU]; exact hP, va_K.moved hW.alike hK, hD.weaken (fun _ _ _ _ => trivial), hNs.warm hW⟩⟩ rfl rfl hl.1 rfl (lv_room (Nat.le_of_ble_eq_true rfl)) d_V_touchTriggers_58 ⟨Nat.le_of_ble_eq_true rfl, Nat.le_of_ble_eq_true rfl⟩) rfl hP hD hS hA (fun H locs hP hD hS => ?_)
              refine lv_if_eq (tgt := 99) hx hb d_V_touchTriggers_61 (by decide) (fun c14 => ?_) (fun c14 => ?_)
              · have hF := qs_pos c14 hF
                exact kb_99 _ ih u13 (x1) (x2) H locs ls hP hD hS (lv_sub hl [0, 1, 2] rfl) hF
              · have hF := qs_neg c14 hF
                refine lv_aload_n hx hb d_V_touchTriggers_64 rfl (lv_at hl 0 rfl) ?_
                refine va_get (D := (dC, dI)) (ci := 4) (v := .ref (h 1)) (C := R_V) (T := T_V) (N := 6) hx hb hg in_V hown hK hP 5 rfl rfl 0 (by decide) (hg _ t_123) (fun _ h9 => h9) rfl d_V_touchTriggers_65 ?_
                refine lv_iload_n hx hb d_V_touchTriggers_68 rfl (lv_at hl 2 rfl) ?_
                refine lv_iload_n hx hb d_V_touchTriggers_69 rfl (lv_at hl 1 rfl) ?_
                refine lv_iconst (v := 1) hx hb d_V_touchTriggers_70 (by decide) ?_
                obtain ⟨r15, u16, hX, hF⟩ := qs_bn_some hF
                refine qs_ci (Wd := qs_W h c) (isC := [0, 1, 2, 3, 4, 5, 6, 7, 8, 9, 10, 11, 12, 13, 14, 15, 16]) (va_runV (own := "QuakeServer$Mover") (C := "QuakeServer$Entities") (As := [.int (x2), .int (x1), .int (1)]) (rest := []) ⟨hx, hb, hml, hown, hg⟩ (c_E_boxesOverlap l dC dI h c H.size u13 (x2) (x1) (1) r15 u16 hX) (cwV 3 hg (qs_gV t_573 t_574 t_575 t_2 t_576) rfl rfl rfl (by decide +kernel) ⟨Nat.le_of_ble_eq_true rfl, Nat.le_of_ble_eq_true rfl⟩) ⟨qs_blind, va_recv hK hP (ci := 0) (q0 := 1) rfl rfl, fun U hU hW => ⟨rfl, by rw [hU], by rw [hU]; exact hP, va_K.moved hW.alike hK, hD.weaken (fun _ _ _ _ => trivial), hNs.warm hW⟩⟩ rfl rfl hl.1 rfl (lv_room (Nat.le_of_ble_eq_true rfl)) d_V_touchTriggers_71 ⟨Nat.le_of_ble_eq_true rfl, Nat.le_of_ble_eq_true rfl⟩) rfl hP hD hS hA (fun H locs hP hD hS => ?_)
                refine lv_if_eq (tgt := 99) hx hb d_V_touchTriggers_74 (by decide) (fun c17 => ?_) (fun c17 => ?_)
                · have hF := qs_pos c17 hF
                  exact kb_99 _ ih u16 (x1) (x2) H locs ls hP hD hS (lv_sub hl [0, 1, 2] rfl) hF
                · have hF := qs_neg c17 hF
                  refine lv_aload_n hx hb d_V_touchTriggers_77 rfl (lv_at hl 0 rfl) ?_
                  refine va_get (D := (dC, dI)) (ci := 4) (v := .ref (h 4)) (C := R_V) (T := T_V) (N := 6) hx hb hg in_V hown hK hP 5 rfl rfl 2 (by decide) (hg _ t_125) (fun _ h9 => h9) rfl d_V_touchTriggers_78 ?_
                  refine lv_aload_n hx hb d_V_touchTriggers_81 rfl (lv_at hl 0 rfl) ?_
                  refine va_get (D := (dC, dI)) (ci := 4) (v := .ref (h 1)) (C := R_V) (T := T_V) (N := 6) hx hb hg in_V hown hK hP 5 rfl rfl 0 (by decide) (hg _ t_123) (fun _ h9 => h9) rfl d_V_touchTriggers_82 ?_
                  refine lv_iload_n hx hb d_V_touchTriggers_85 rfl (lv_at hl 2 rfl) ?_
                  refine lv_bipush (v := 8) hx hb d_V_touchTriggers_86 (by decide) ?_
                  obtain ⟨r18, u19, hX, hF⟩ := qs_bn_some hF
                  refine qs_ci (Wd := qs_W h c) (isC := [0, 1, 2, 3, 4, 5, 6, 7, 8, 9, 10, 11, 12, 13, 14, 15, 16]) (va_runV (own := "QuakeServer$Mover") (C := "QuakeServer$Entities") (As := [.int (x2), .int (8)]) (rest := [.ref (h 4)]) ⟨hx, hb, hml, hown, hg⟩ (c_E_wholeField l dC dI h c H.size u16 (x2) (8) r18 u19 hX) (cwV 2 hg (qs_gV t_508 t_509 t_510 t_2 t_511) rfl rfl rfl (by decide +kernel) ⟨Nat.le_of_ble_eq_true rfl, Nat.le_of_ble_eq_true rfl⟩) ⟨qs_blind, va_recv hK hP (ci := 0) (q0 := 1) rfl rfl, fun U hU hW => ⟨rfl, by rw [hU], by rw [hU]; exact hP, va_K.moved hW.alike hK, hD.weaken (fun _ _ _ _ => trivial), hNs.warm hW⟩⟩ rfl rfl hl.1 rfl (lv_room (Nat.le_of_ble_eq_true rfl)) d_V_touchTriggers_88 ⟨Nat.le_of_ble_eq_true rfl, Nat.le_of_ble_eq_true rfl⟩) rfl hP hD hS hA (fun H locs hP hD hS => ?_)
                  refine lv_iconst (v := 1) hx hb d_V_touchTriggers_91 (by decide) ?_
                  refine lv_isub hx hb d_V_touchTriggers_92 ?_
                  refine lv_iload_n hx hb d_V_touchTriggers_93 rfl (lv_at hl 2 rfl) ?_
                  refine lv_iload_n hx hb d_V_touchTriggers_94 rfl (lv_at hl 1 rfl) ?_
                  obtain ⟨r20, u21, hX, hF⟩ := qs_bn_some hF
                  refine qs_ci (Wd := qs_W h c) (isC := [0, 1, 2, 3, 4, 5, 6, 7, 8, 9, 10, 11, 12, 13, 14, 15, 16]) (va_runV (own := "QuakeServer$Mover") (C := "QuakeServer$Machine") (As := [.int (r18 - 1), .int (x2), .int (x1)]) (rest := []) ⟨hx, hb, hml, hown, hg⟩ (c_M_start l dC dI h c H.size u19 (r18 - 1) (x2) (x1) r20 u21 hX) (cwV 3 hg (qs_gV t_578 t_438 t_439 t_5 t_440) rfl rfl rfl (by decide +kernel) ⟨Nat.le_of_ble_eq_true rfl, Nat.le_of_ble_eq_true rfl⟩) ⟨qs_blind, va_recv hK hP (ci := 3) (q0 := 4) rfl rfl, fun U hU hW => ⟨rfl, by rw [hU], by rw [hU]; exact hP, va_K.moved hW.alike hK, hD.weaken (fun _ _ _ _ => trivial), hNs.warm hW⟩⟩ rfl rfl hl.1 rfl (lv_room (Nat.le_of_ble_eq_true rfl)) d_V_touchTriggers_95 ⟨Nat.le_of_ble_eq_true rfl, Nat.le_of_ble_eq_true rfl⟩) rfl hP hD hS hA (fun H locs hP hD hS => ?_)
                  refine lv_pop hx hb d_V_touchTriggers_98 rfl ?_
                  exact kb_99 _ ih u21 (x1) (x2) H locs ls hP hD hS (lv_sub hl [0, 1, 2] rfl) hF
  have hl := lv_entry ([.ref (h 5), .int a1] : List Value) (n := 3) (Nat.le_of_ble_eq_true rfl)
  rw [lg_entry_eq]
  generalize (lg_sl ([.ref (h 5), .int a1] : List Value) ++ List.replicate (3 - (lg_sl ([.ref (h 5), .int a1] : List Value)).length) Slot.unset).toArray = ls at hl ⊢
  have hl : lv_has ls 3 [(0, .ref (h 5)), (1, .int (a1))] := hl
  unfold f_V_touchTriggers at hF
  obtain ⟨H, hHe⟩ : ∃ H, H = s.heap := ⟨_, rfl⟩
  obtain ⟨locs, hLe⟩ : ∃ L : List Loc, L = [] := ⟨_, rfl⟩
  rw [← hHe] at hP ⊢
  rw [← hLe]
  have hS : va_S A s.heap H locs := by rw [hHe, hLe]; exact hS
  refine lv_aload_n hx hb d_V_touchTriggers_0 rfl (lv_at hl 0 rfl) ?_
  refine va_get (D := (dC, dI)) (ci := 4) (v := .ref (h 1)) (C := R_V) (T := T_V) (N := 6) hx hb hg in_V hown hK hP 5 rfl rfl 0 (by decide) (hg _ t_123) (fun _ h9 => h9) rfl d_V_touchTriggers_1 ?_
  refine lv_iload_n hx hb d_V_touchTriggers_4 rfl (lv_at hl 1 rfl) ?_
  refine lv_iconst (v := 5) hx hb d_V_touchTriggers_5 (by decide) ?_
  obtain ⟨r1, u2, hX, hF⟩ := qs_bn_some hF
  refine qs_ci (Wd := qs_W h c) (isC := [0, 1, 2, 3, 4, 5, 6, 7, 8, 9, 10, 11, 12, 13, 14, 15, 16]) (va_runV (own := "QuakeServer$Mover") (C := "QuakeServer$Entities") (As := [.int (a1), .int (5)]) (rest := []) ⟨hx, hb, hml, hown, hg⟩ (c_E_wholeField l dC dI h c H.size g (a1) (5) r1 u2 hX) (cwV 2 hg (qs_gV t_508 t_509 t_510 t_2 t_511) rfl rfl rfl (by decide +kernel) ⟨Nat.le_of_ble_eq_true rfl, Nat.le_of_ble_eq_true rfl⟩) ⟨qs_blind, va_recv hK hP (ci := 0) (q0 := 1) rfl rfl, fun U hU hW => ⟨rfl, by rw [hU], by rw [hU]; exact hP, va_K.moved hW.alike hK, hD.weaken (fun _ _ _ _ => trivial), hNs.warm hW⟩⟩ rfl rfl hl.1 rfl (lv_room (Nat.le_of_ble_eq_true rfl)) d_V_touchTriggers_6 ⟨Nat.le_of_ble_eq_true rfl, Nat.le_of_ble_eq_true rfl⟩) rfl hP hD hS hA (fun H locs hP hD hS => ?_)
  refine lv_iconst (v := 1) hx hb d_V_touchTriggers_9 (by decide) ?_
  refine lv_icmp_ne (tgt := 14) hx hb d_V_touchTriggers_10 (by decide) (fun c3 => ?_) (fun c3 => ?_)
  · have hF := qs_neg c3 hF
    refine lv_iconst (v := 0) hx hb d_V_touchTriggers_14 (by decide) ?_
    refine lv_istore_n (lv' := [(2, .int (0)), (0, .ref (h 5)), (1, .int (a1))]) hx hb d_V_touchTriggers_15 rfl hl (by decide) rfl (fun ls hl => ?_)
    exact kb_16 200 u2 (a1) (0) H locs ls hP hD hS (lv_sub hl [1, 2, 0] rfl) hF
  · have hF := qs_pos c3 hF
    obtain ⟨h8, h9⟩ := qs_ret hF
    exact W.vret hx hb hr (fun t ht hW => ⟨⟨u2, rfl, h9, by rw [ht]; exact hP, va_K.moved hW.alike hK, hD⟩, hS.F ht⟩) hS.2.2 d_V_touchTriggers_13

theorem d_V_think_0 : decode b_V_think 0 = .ok (.aload_n 0, 1) := by decide +kernel
theorem d_V_think_1 : decode b_V_think 1 = .ok (.getfield 9, 3) := by decide +kernel
theorem d_V_think_4 : decode b_V_think 4 = .ok (.iload_n 1, 1) := by decide +kernel
theorem d_V_think_5 : decode b_V_think 5 = .ok (.bipush 10, 2) := by decide +kernel
theorem d_V_think_7 : decode b_V_think 7 = .ok (.invokevirtual 29, 3) := by decide +kernel
theorem d_V_think_10 : decode b_V_think 10 = .ok (.istore_n 2, 1) := by decide +kernel
theorem d_V_think_11 : decode b_V_think 11 = .ok (.iload_n 2, 1) := by decide +kernel
theorem d_V_think_12 : decode b_V_think 12 = .ok (.ifCond .le 47, 3) := by decide +kernel
theorem d_V_think_15 : decode b_V_think 15 = .ok (.iload_n 2, 1) := by decide +kernel
theorem d_V_think_16 : decode b_V_think 16 = .ok (.aload_n 0, 1) := by decide +kernel
theorem d_V_think_17 : decode b_V_think 17 = .ok (.getfield 19, 3) := by decide +kernel
theorem d_V_think_20 : decode b_V_think 20 = .ok (.getfield 114, 3) := by decide +kernel
theorem d_V_think_23 : decode b_V_think 23 = .ok (.if_icmp .gt 36, 3) := by decide +kernel
theorem d_V_think_26 : decode b_V_think 26 = .ok (.aload_n 0, 1) := by decide +kernel
theorem d_V_think_27 : decode b_V_think 27 = .ok (.getfield 9, 3) := by decide +kernel
theorem d_V_think_30 : decode b_V_think 30 = .ok (.iload_n 1, 1) := by decide +kernel
theorem d_V_think_31 : decode b_V_think 31 = .ok (.bipush 10, 2) := by decide +kernel
theorem d_V_think_33 : decode b_V_think 33 = .ok (.iconst 0, 1) := by decide +kernel
theorem d_V_think_34 : decode b_V_think 34 = .ok (.invokevirtual 36, 3) := by decide +kernel
theorem d_V_think_37 : decode b_V_think 37 = .ok (.aload_n 0, 1) := by decide +kernel
theorem d_V_think_38 : decode b_V_think 38 = .ok (.getfield 19, 3) := by decide +kernel
theorem d_V_think_41 : decode b_V_think 41 = .ok (.aload_n 0, 1) := by decide +kernel
theorem d_V_think_42 : decode b_V_think 42 = .ok (.getfield 9, 3) := by decide +kernel
theorem d_V_think_45 : decode b_V_think 45 = .ok (.iload_n 1, 1) := by decide +kernel
theorem d_V_think_46 : decode b_V_think 46 = .ok (.bipush 9, 2) := by decide +kernel
theorem d_V_think_48 : decode b_V_think 48 = .ok (.invokevirtual 23, 3) := by decide +kernel
theorem d_V_think_51 : decode b_V_think 51 = .ok (.iconst 1, 1) := by decide +kernel
theorem d_V_think_52 : decode b_V_think 52 = .ok (.isub, 1) := by decide +kernel
theorem d_V_think_53 : decode b_V_think 53 = .ok (.iload_n 1, 1) := by decide +kernel
theorem d_V_think_54 : decode b_V_think 54 = .ok (.iconst (-1), 1) := by decide +kernel
theorem d_V_think_55 : decode b_V_think 55 = .ok (.invokevirtual 58, 3) := by decide +kernel
theorem d_V_think_58 : decode b_V_think 58 = .ok (.pop, 1) := by decide +kernel
theorem d_V_think_59 : decode b_V_think 59 = .ok (.return_, 1) := by decide +kernel
def f_V_think (g : Sg) (a1 : Int32) : Option (Unit × Sg) := (qs_bn (f_E_field g (a1) (10)) fun r1 u2 => (if r1 ≤ 0 then (some ((), u2)) else (if (u2 23 0) < r1 then (some ((), u2)) else (qs_bn (f_E_put u2 (a1) (10) (0)) fun _ u6 => (qs_bn (f_E_wholeField u6 (a1) (9)) fun r7 u8 => (qs_bn (f_M_start u8 (r7 - 1) (a1) ((-1))) fun r9 u10 => (some ((), u10))))))))
set_option maxHeartbeats 4000000 in
set_option maxRecDepth 100000 in
theorem c_V_think (l : Launch) (dC : Nat → ClassId) (dI : Nat → Nat → Nat) (h : Nat → Nat) (c : Nat → ClassId) (sz : Nat) (g : Sg) (a1 : Int32) (u0 : Sg) (hF : f_V_think g a1 = some ((), u0)) : Met l y_V_think (qs_ws y_V_think b_V_think 3 none) ({ frames := 5, cells := 0, slots := 0, locals := 121 } : Room) (va_Pc ([.ref (h 5), .int a1] : List Value) (fun U => U.heap.size = sz ∧ va_P (dC, dI) vwCl (qs_W h c g) U.heap ∧ va_K (dC, dI) vwCl (qs_T c) U ∧ va_D (fun _ => True) (qs_W h c g) ∧ qs_N U)) (va_Qv (fun (u : Sg) => u = u0) (qs_at dC dI h c (va_A (qs_W h c g) sz)) (va_A (qs_W h c g) sz)) 0 0 (va_A (qs_W h c g) sz) := by
  refine Met.ofW (cc := b_V_think) (maxL := 3) (ret := none) (by decide +kernel) rfl ?_
  intro p e s m args below meth cd s₁ B hml hv
  obtain ⟨rfl, hsz, hP, hK, hD0, hNs⟩ := hv
  have hx := B.exec
  have hb := B.bytes
  have hr := B.returns
  have hts := atoms_spec (ws := (qs_ws y_V_think b_V_think 3 none)) B.pre
  have hg : ∀ w ∈ qs_gt, w.before _ s = true := fun w h => hts w (List.mem_cons_of_mem _ h)
  have hown : s.vm.findClass R_V = some m.cls := findClass_of_methodNamed B.named
  have hlocks := B.notSynchronized
  subst hsz
  have hD := hD0.self (sz := s.heap.size)
  generalize hAe : va_A (qs_W h c g) s.heap.size = A at hD ⊢
  have hA : ∀ q : Nat, s.heap.size ≤ q → A q := fun q h => by rw [← hAe]; exact Or.inr h
  have hS : va_S A s.heap s.heap [] := va_S.rf
  have hl := lv_entry ([.ref (h 5), .int a1] : List Value) (n := 3) (Nat.le_of_ble_eq_true rfl)
  rw [lg_entry_eq]
  generalize (lg_sl ([.ref (h 5), .int a1] : List Value) ++ List.replicate (3 - (lg_sl ([.ref (h 5), .int a1] : List Value)).length) Slot.unset).toArray = ls at hl ⊢
  have hl : lv_has ls 3 [(0, .ref (h 5)), (1, .int (a1))] := hl
  unfold f_V_think at hF
  obtain ⟨H, hHe⟩ : ∃ H, H = s.heap := ⟨_, rfl⟩
  obtain ⟨locs, hLe⟩ : ∃ L : List Loc, L = [] := ⟨_, rfl⟩
  rw [← hHe] at hP ⊢
  rw [← hLe]
  have hS : va_S A s.heap H locs := by rw [hHe, hLe]; exact hS
  refine lv_aload_n hx hb d_V_think_0 rfl (lv_at hl 0 rfl) ?_
  refine va_get (D := (dC, dI)) (ci := 4) (v := .ref (h 1)) (C := R_V) (T := T_V) (N := 6) hx hb hg in_V hown hK hP 5 rfl rfl 0 (by decide) (hg _ t_123) (fun _ h9 => h9) rfl d_V_think_1 ?_
  refine lv_iload_n hx hb d_V_think_4 rfl (lv_at hl 1 rfl) ?_
  refine lv_bipush (v := 10) hx hb d_V_think_5 (by decide) ?_
  obtain ⟨r1, u2, hX, hF⟩ := qs_bn_some hF
  refine qs_ci (Wd := qs_W h c) (isC := [0, 1, 2, 3, 4, 5, 6, 7, 8, 9, 10, 11, 12, 13, 14, 15, 16]) (va_runV (own := "QuakeServer$Mover") (C := "QuakeServer$Entities") (As := [.int (a1), .int (10)]) (rest := []) ⟨hx, hb, hml, hown, hg⟩ (c_E_field l dC dI h c H.size g (a1) (10) r1 u2 hX) (cwV 2 hg (qs_gV t_514 t_192 t_193 t_2 t_194) rfl rfl rfl (by decide +kernel) ⟨Nat.le_of_ble_eq_true rfl, Nat.le_of_ble_eq_true rfl⟩) ⟨qs_blind, va_recv hK hP (ci := 0) (q0 := 1) rfl rfl, fun U hU hW => ⟨rfl, by rw [hU], by rw [hU]; exact hP, va_K.moved hW.alike hK, hD.weaken (fun _ _ _ _ => trivial), hNs.warm hW⟩⟩ rfl rfl hl.1 rfl (lv_room (Nat.le_of_ble_eq_true rfl)) d_V_think_7 ⟨Nat.le_of_ble_eq_true rfl, Nat.le_of_ble_eq_true rfl⟩) rfl hP hD hS hA (fun H locs hP hD hS => ?_)
  refine lv_istore_n (lv' := [(2, .int (r1)), (0, .ref (h 5)), (1, .int (a1))]) hx hb d_V_think_10 rfl hl (by decide) rfl (fun ls hl => ?_)
  refine lv_iload_n hx hb d_V_think_11 rfl (lv_at hl 0 rfl) ?_
  refine lv_if_le (tgt := 59) hx hb d_V_think_12 (by decide) (fun c3 => ?_) (fun c3 => ?_)
  · have hF := qs_pos c3 hF
    obtain ⟨h8, h9⟩ := qs_ret hF
    exact W.vret hx hb hr (fun t ht hW => ⟨⟨u2, rfl, h9, by rw [ht]; exact hP, va_K.moved hW.alike hK, hD⟩, hS.F ht⟩) hS.2.2 d_V_think_59
  · have hF := qs_neg c3 hF
    refine lv_iload_n hx hb d_V_think_15 rfl (lv_at hl 0 rfl) ?_
    refine lv_aload_n hx hb d_V_think_16 rfl (lv_at hl 1 rfl) ?_
    refine va_get (D := (dC, dI)) (ci := 4) (v := .ref (h 4)) (C := R_V) (T := T_V) (N := 6) hx hb hg in_V hown hK hP 5 rfl rfl 2 (by decide) (hg _ t_125) (fun _ h9 => h9) rfl d_V_think_17 ?_
    refine va_getN (D := (dC, dI)) (ci := 3) (v := .int (u2 23 0)) (C := R_M) (T := T_M) (N := 11) hx hb hg in_M hown hK hP 4 rfl rfl 7 (by decide) (va_Nw.use rfl (nF_4 hNs)) (fun _ h9 => h9) rfl d_V_think_20 ?_
    refine lv_icmp_gt (tgt := 59) hx hb d_V_think_23 (by decide) (fun c4 => ?_) (fun c4 => ?_)
    · have hF := qs_pos c4 hF
      obtain ⟨h8, h9⟩ := qs_ret hF
      exact W.vret hx hb hr (fun t ht hW => ⟨⟨u2, rfl, h9, by rw [ht]; exact hP, va_K.moved hW.alike hK, hD⟩, hS.F ht⟩) hS.2.2 d_V_think_59
    · have hF := qs_neg c4 hF
      refine lv_aload_n hx hb d_V_think_26 rfl (lv_at hl 1 rfl) ?_
      refine va_get (D := (dC, dI)) (ci := 4) (v := .ref (h 1)) (C := R_V) (T := T_V) (N := 6) hx hb hg in_V hown hK hP 5 rfl rfl 0 (by decide) (hg _ t_123) (fun _ h9 => h9) rfl d_V_think_27 ?_
      refine lv_iload_n hx hb d_V_think_30 rfl (lv_at hl 2 rfl) ?_
      refine lv_bipush (v := 10) hx hb d_V_think_31 (by decide) ?_
      refine lv_iconst (v := 0) hx hb d_V_think_33 (by decide) ?_
      obtain ⟨r5, u6, hX, hF⟩ := qs_bn_some hF
      refine qs_cv (Wd := qs_W h c) (isC := [0, 1, 2, 3, 4, 5, 6, 7, 8, 9, 10, 11, 12, 13, 14, 15, 16]) (va_runV (own := "QuakeServer$Mover") (C := "QuakeServer$Entities") (As := [.int (a1), .int (10), .int (0)]) (rest := []) ⟨hx, hb, hml, hown, hg⟩ (c_E_put l dC dI h c H.size u2 (a1) (10) (0)  u6 hX) (cwV 3 hg (qs_gV t_516 t_355 t_356 t_2 t_357) rfl rfl rfl (by decide +kernel) ⟨Nat.le_of_ble_eq_true rfl, Nat.le_of_ble_eq_true rfl⟩) ⟨qs_blind, va_recv hK hP (ci := 0) (q0 := 1) rfl rfl, fun U hU hW => ⟨rfl, by rw [hU], by rw [hU]; exact hP, va_K.moved hW.alike hK, hD.weaken (fun _ _ _ _ => trivial), hNs.warm hW⟩⟩ rfl rfl hl.1 rfl (lv_room (Nat.le_of_ble_eq_true rfl)) d_V_think_34 ⟨Nat.le_of_ble_eq_true rfl, Nat.le_of_ble_eq_true rfl⟩) rfl hP hD hS hA (fun H locs hP hD hS => ?_)
      refine lv_aload_n hx hb d_V_think_37 rfl (lv_at hl 1 rfl) ?_
      refine va_get (D := (dC, dI)) (ci := 4) (v := .ref (h 4)) (C := R_V) (T := T_V) (N := 6) hx hb hg in_V hown hK hP 5 rfl rfl 2 (by decide) (hg _ t_125) (fun _ h9 => h9) rfl d_V_think_38 ?_
      refine lv_aload_n hx hb d_V_think_41 rfl (lv_at hl 1 rfl) ?_
      refine va_get (D := (dC, dI)) (ci := 4) (v := .ref (h 1)) (C := R_V) (T := T_V) (N := 6) hx hb hg in_V hown hK hP 5 rfl rfl 0 (by decide) (hg _ t_123) (fun _ h9 => h9) rfl d_V_think_42 ?_
      refine lv_iload_n hx hb d_V_think_45 rfl (lv_at hl 2 rfl) ?_
      refine lv_bipush (v := 9) hx hb d_V_think_46 (by decide) ?_
      obtain ⟨r7, u8, hX, hF⟩ := qs_bn_some hF
      refine qs_ci (Wd := qs_W h c) (isC := [0, 1, 2, 3, 4, 5, 6, 7, 8, 9, 10, 11, 12, 13, 14, 15, 16]) (va_runV (own := "QuakeServer$Mover") (C := "QuakeServer$Entities") (As := [.int (a1), .int (9)]) (rest := [.ref (h 4)]) ⟨hx, hb, hml, hown, hg⟩ (c_E_wholeField l dC dI h c H.size u6 (a1) (9) r7 u8 hX) (cwV 2 hg (qs_gV t_508 t_509 t_510 t_2 t_511) rfl rfl rfl (by decide +kernel) ⟨Nat.le_of_ble_eq_true rfl, Nat.le_of_ble_eq_true rfl⟩) ⟨qs_blind, va_recv hK hP (ci := 0) (q0 := 1) rfl rfl, fun U hU hW => ⟨rfl, by rw [hU], by rw [hU]; exact hP, va_K.moved hW.alike hK, hD.weaken (fun _ _ _ _ => trivial), hNs.warm hW⟩⟩ rfl rfl hl.1 rfl (lv_room (Nat.le_of_ble_eq_true rfl)) d_V_think_48 ⟨Nat.le_of_ble_eq_true rfl, Nat.le_of_ble_eq_true rfl⟩) rfl hP hD hS hA (fun H locs hP hD hS => ?_)
      refine lv_iconst (v := 1) hx hb d_V_think_51 (by decide) ?_
      refine lv_isub hx hb d_V_think_52 ?_
      refine lv_iload_n hx hb d_V_think_53 rfl (lv_at hl 2 rfl) ?_
      refine lv_iconst (v := (-1)) hx hb d_V_think_54 (by decide) ?_
      obtain ⟨r9, u10, hX, hF⟩ := qs_bn_some hF
      refine qs_ci (Wd := qs_W h c) (isC := [0, 1, 2, 3, 4, 5, 6, 7, 8, 9, 10, 11, 12, 13, 14, 15, 16]) (va_runV (own := "QuakeServer$Mover") (C := "QuakeServer$Machine") (As := [.int (r7 - 1), .int (a1), .int ((-1))]) (rest := []) ⟨hx, hb, hml, hown, hg⟩ (c_M_start l dC dI h c H.size u8 (r7 - 1) (a1) ((-1)) r9 u10 hX) (cwV 3 hg (qs_gV t_578 t_438 t_439 t_5 t_440) rfl rfl rfl (by decide +kernel) ⟨Nat.le_of_ble_eq_true rfl, Nat.le_of_ble_eq_true rfl⟩) ⟨qs_blind, va_recv hK hP (ci := 3) (q0 := 4) rfl rfl, fun U hU hW => ⟨rfl, by rw [hU], by rw [hU]; exact hP, va_K.moved hW.alike hK, hD.weaken (fun _ _ _ _ => trivial), hNs.warm hW⟩⟩ rfl rfl hl.1 rfl (lv_room (Nat.le_of_ble_eq_true rfl)) d_V_think_55 ⟨Nat.le_of_ble_eq_true rfl, Nat.le_of_ble_eq_true rfl⟩) rfl hP hD hS hA (fun H locs hP hD hS => ?_)
      refine lv_pop hx hb d_V_think_58 rfl ?_
      obtain ⟨h8, h9⟩ := qs_ret hF
      exact W.vret hx hb hr (fun t ht hW => ⟨⟨u10, rfl, h9, by rw [ht]; exact hP, va_K.moved hW.alike hK, hD⟩, hS.F ht⟩) hS.2.2 d_V_think_59

theorem d_V_takeTurn_0 : decode b_V_takeTurn 0 = .ok (.aload_n 0, 1) := by decide +kernel
theorem d_V_takeTurn_1 : decode b_V_takeTurn 1 = .ok (.getfield 9, 3) := by decide +kernel
theorem d_V_takeTurn_4 : decode b_V_takeTurn 4 = .ok (.iload_n 1, 1) := by decide +kernel
theorem d_V_takeTurn_5 : decode b_V_takeTurn 5 = .ok (.bipush 6, 2) := by decide +kernel
theorem d_V_takeTurn_7 : decode b_V_takeTurn 7 = .ok (.invokevirtual 23, 3) := by decide +kernel
theorem d_V_takeTurn_10 : decode b_V_takeTurn 10 = .ok (.istore_n 2, 1) := by decide +kernel
theorem d_V_takeTurn_11 : decode b_V_takeTurn 11 = .ok (.iload_n 2, 1) := by decide +kernel
theorem d_V_takeTurn_12 : decode b_V_takeTurn 12 = .ok (.iconst 2, 1) := by decide +kernel
theorem d_V_takeTurn_13 : decode b_V_takeTurn 13 = .ok (.if_icmp .eq 8, 3) := by decide +kernel
theorem d_V_takeTurn_16 : decode b_V_takeTurn 16 = .ok (.iload_n 2, 1) := by decide +kernel
theorem d_V_takeTurn_17 : decode b_V_takeTurn 17 = .ok (.iconst 3, 1) := by decide +kernel
theorem d_V_takeTurn_18 : decode b_V_takeTurn 18 = .ok (.if_icmp .ne 28, 3) := by decide +kernel
theorem d_V_takeTurn_21 : decode b_V_takeTurn 21 = .ok (.aload_n 0, 1) := by decide +kernel
theorem d_V_takeTurn_22 : decode b_V_takeTurn 22 = .ok (.getfield 9, 3) := by decide +kernel
theorem d_V_takeTurn_25 : decode b_V_takeTurn 25 = .ok (.iload_n 1, 1) := by decide +kernel
theorem d_V_takeTurn_26 : decode b_V_takeTurn 26 = .ok (.iconst 3, 1) := by decide +kernel
theorem d_V_takeTurn_27 : decode b_V_takeTurn 27 = .ok (.aload_n 0, 1) := by decide +kernel
theorem d_V_takeTurn_28 : decode b_V_takeTurn 28 = .ok (.getfield 9, 3) := by decide +kernel
theorem d_V_takeTurn_31 : decode b_V_takeTurn 31 = .ok (.iload_n 1, 1) := by decide +kernel
theorem d_V_takeTurn_32 : decode b_V_takeTurn 32 = .ok (.iconst 3, 1) := by decide +kernel
theorem d_V_takeTurn_33 : decode b_V_takeTurn 33 = .ok (.invokevirtual 29, 3) := by decide +kernel
theorem d_V_takeTurn_36 : decode b_V_takeTurn 36 = .ok (.bipush 64, 2) := by decide +kernel
theorem d_V_takeTurn_38 : decode b_V_takeTurn 38 = .ok (.isub, 1) := by decide +kernel
theorem d_V_takeTurn_39 : decode b_V_takeTurn 39 = .ok (.i2l, 1) := by decide +kernel
theorem d_V_takeTurn_40 : decode b_V_takeTurn 40 = .ok (.invokestatic 32, 3) := by decide +kernel
theorem d_V_takeTurn_43 : decode b_V_takeTurn 43 = .ok (.invokevirtual 36, 3) := by decide +kernel
theorem d_V_takeTurn_46 : decode b_V_takeTurn 46 = .ok (.iload_n 2, 1) := by decide +kernel
theorem d_V_takeTurn_47 : decode b_V_takeTurn 47 = .ok (.iconst 1, 1) := by decide +kernel
theorem d_V_takeTurn_48 : decode b_V_takeTurn 48 = .ok (.if_icmp .eq 13, 3) := by decide +kernel
theorem d_V_takeTurn_51 : decode b_V_takeTurn 51 = .ok (.iload_n 2, 1) := by decide +kernel
theorem d_V_takeTurn_52 : decode b_V_takeTurn 52 = .ok (.iconst 2, 1) := by decide +kernel
theorem d_V_takeTurn_53 : decode b_V_takeTurn 53 = .ok (.if_icmp .eq 8, 3) := by decide +kernel
theorem d_V_takeTurn_56 : decode b_V_takeTurn 56 = .ok (.iload_n 2, 1) := by decide +kernel
theorem d_V_takeTurn_57 : decode b_V_takeTurn 57 = .ok (.iconst 3, 1) := by decide +kernel
theorem d_V_takeTurn_58 : decode b_V_takeTurn 58 = .ok (.if_icmp .ne 20, 3) := by decide +kernel
theorem d_V_takeTurn_61 : decode b_V_takeTurn 61 = .ok (.aload_n 0, 1) := by decide +kernel
theorem d_V_takeTurn_62 : decode b_V_takeTurn 62 = .ok (.iload_n 1, 1) := by decide +kernel
theorem d_V_takeTurn_63 : decode b_V_takeTurn 63 = .ok (.iconst 0, 1) := by decide +kernel
theorem d_V_takeTurn_64 : decode b_V_takeTurn 64 = .ok (.invokevirtual 40, 3) := by decide +kernel
theorem d_V_takeTurn_67 : decode b_V_takeTurn 67 = .ok (.aload_n 0, 1) := by decide +kernel
theorem d_V_takeTurn_68 : decode b_V_takeTurn 68 = .ok (.iload_n 1, 1) := by decide +kernel
theorem d_V_takeTurn_69 : decode b_V_takeTurn 69 = .ok (.iconst 1, 1) := by decide +kernel
theorem d_V_takeTurn_70 : decode b_V_takeTurn 70 = .ok (.invokevirtual 40, 3) := by decide +kernel
theorem d_V_takeTurn_73 : decode b_V_takeTurn 73 = .ok (.aload_n 0, 1) := by decide +kernel
theorem d_V_takeTurn_74 : decode b_V_takeTurn 74 = .ok (.iload_n 1, 1) := by decide +kernel
theorem d_V_takeTurn_75 : decode b_V_takeTurn 75 = .ok (.invokevirtual 44, 3) := by decide +kernel
theorem d_V_takeTurn_78 : decode b_V_takeTurn 78 = .ok (.aload_n 0, 1) := by decide +kernel
theorem d_V_takeTurn_79 : decode b_V_takeTurn 79 = .ok (.iload_n 1, 1) := by decide +kernel
theorem d_V_takeTurn_80 : decode b_V_takeTurn 80 = .ok (.invokevirtual 48, 3) := by decide +kernel
theorem d_V_takeTurn_83 : decode b_V_takeTurn 83 = .ok (.return_, 1) := by decide +kernel
def f_V_takeTurn_78  (g : Sg) (x1 : Int32) : Option (Unit × Sg) := (qs_bn (f_V_think g (x1)) fun _ u20 => (some ((), u20)))
def f_V_takeTurn_61  (g : Sg) (x1 : Int32) : Option (Unit × Sg) := (qs_bn (f_V_travel g (x1) (0)) fun _ u14 => (qs_bn (f_V_travel u14 (x1) (1)) fun _ u16 => (qs_bn (f_V_touchTriggers u16 (x1)) fun _ u18 => (f_V_takeTurn_78 u18 (x1)))))
def f_V_takeTurn_46  (g : Sg) (x1 : Int32) (x2 : Int32) : Option (Unit × Sg) := (if x2 = 1 then (f_V_takeTurn_61 g (x1)) else (if x2 = 2 then (f_V_takeTurn_61 g (x1)) else (if x2 = 3 then (f_V_takeTurn_61 g (x1)) else (f_V_takeTurn_78 g (x1)))))
def f_V_takeTurn_21  (g : Sg) (x1 : Int32) (x2 : Int32) : Option (Unit × Sg) := (qs_bn (f_E_field g (x1) (3)) fun r5 u6 => (qs_pb (f_Q_inRange ((r5 - 64).toInt64)) fun r7 => (qs_bn (f_E_put u6 (x1) (3) (r7)) fun _ u9 => (f_V_takeTurn_46 u9 (x1) (x2)))))
def f_V_takeTurn (g : Sg) (a1 : Int32) : Option (Unit × Sg) := (qs_bn (f_E_wholeField g (a1) (6)) fun r1 u2 => (if r1 = 2 then (f_V_takeTurn_21 u2 (a1) (r1)) else (if r1 = 3 then (f_V_takeTurn_21 u2 (a1) (r1)) else (f_V_takeTurn_46 u2 (a1) (r1)))))
set_option maxHeartbeats 4000000 in
set_option maxRecDepth 100000 in
theorem c_V_takeTurn (l : Launch) (dC : Nat → ClassId) (dI : Nat → Nat → Nat) (h : Nat → Nat) (c : Nat → ClassId) (sz : Nat) (g : Sg) (a1 : Int32) (u0 : Sg) (hF : f_V_takeTurn g a1 = some ((), u0)) : Met l y_V_takeTurn (qs_ws y_V_takeTurn b_V_takeTurn 3 none) ({ frames := 6, cells := 0, slots := 0, locals := 144 } : Room) (va_Pc ([.ref (h 5), .int a1] : List Value) (fun U => U.heap.size = sz ∧ va_P (dC, dI) vwCl (qs_W h c g) U.heap ∧ va_K (dC, dI) vwCl (qs_T c) U ∧ va_D (fun _ => True) (qs_W h c g) ∧ qs_N U)) (va_Qv (fun (u : Sg) => u = u0) (qs_at dC dI h c (va_A (qs_W h c g) sz)) (va_A (qs_W h c g) sz)) 0 0 (va_A (qs_W h c g) sz) := by
  refine Met.ofW (cc := b_V_takeTurn) (maxL := 3) (ret := none) (by decide +kernel) rfl ?_
  intro p e s m args below meth cd s₁ B hml hv
  obtain ⟨rfl, hsz, hP, hK, hD0, hNs⟩ := hv
  have hx := B.exec
  have hb := B.bytes
  have hr := B.returns
  have hts := atoms_spec (ws := (qs_ws y_V_takeTurn b_V_takeTurn 3 none)) B.pre
  have hg : ∀ w ∈ qs_gt, w.before _ s = true := fun w h => hts w (List.mem_cons_of_mem _ h)
  have hown : s.vm.findClass R_V = some m.cls := findClass_of_methodNamed B.named
  have hlocks := B.notSynchronized
  subst hsz
  have hD := hD0.self (sz := s.heap.size)
  generalize hAe : va_A (qs_W h c g) s.heap.size = A at hD ⊢
  have hA : ∀ q : Nat, s.heap.size ≤ q → A q := fun q h => by rw [← hAe]; exact Or.inr h
  have hS : va_S A s.heap s.heap [] := va_S.rf
  have kb_78 : ∀ (g : Sg) (x1 : Int32) (H : Heap) (locs : List Loc) (ls : Array Slot), va_P (dC, dI) vwCl (qs_W h c g) H → va_D A (qs_W h c g) → va_S A s.heap H locs → lv_has ls 3 [(0, .ref (h 5)), (1, .int (x1))] → f_V_takeTurn_78  g x1 = some ((), u0) → W p l e (headSpec (qs_ws y_V_takeTurn b_V_takeTurn 3 none) ({ frames := 6, cells := 0, slots := 0, locals := 144 } : Room)).room s m ([.ref (h 5), .int a1] : List Value).toArray below meth cd H locs 0 0 (MQ below (va_Qv (fun (u : Sg) => u = u0) (qs_at dC dI h c A) A) ([.ref (h 5), .int a1] : List Value).toArray s 0 0 A) (F0 m 78 ls []) := by
    intro g x1 H locs ls hP hD hS hl hF
    unfold f_V_takeTurn_78 at hF
    refine lv_aload_n hx hb d_V_takeTurn_78 rfl (lv_at hl 0 rfl) ?_
    refine lv_iload_n hx hb d_V_takeTurn_79 rfl (lv_at hl 1 rfl) ?_
    obtain ⟨r19, u20, hX, hF⟩ := qs_bn_some hF
    refine qs_cv (Wd := qs_W h c) (isC := [0, 1, 2, 3, 4, 5, 6, 7, 8, 9, 10, 11, 12, 13, 14, 15, 16]) (va_runV (own := "QuakeServer$Mover") (C := "QuakeServer$Mover") (As := [.int (x1)]) (rest := []) ⟨hx, hb, hml, hown, hg⟩ (c_V_think l dC dI h c H.size g (x1)  u20 hX) (cwV 1 hg (qs_gV t_584 t_586 tp_16 t_6 t_587) rfl rfl rfl (by decide +kernel) ⟨Nat.le_of_ble_eq_true rfl, Nat.le_of_ble_eq_true rfl⟩) ⟨qs_blind, va_recv hK hP (ci := 4) (q0 := 5) rfl rfl, fun U hU hW => ⟨rfl, by rw [hU], by rw [hU]; exact hP, va_K.moved hW.alike hK, hD.weaken (fun _ _ _ _ => trivial), hNs.warm hW⟩⟩ rfl rfl hl.1 rfl (lv_room (Nat.le_of_ble_eq_true rfl)) d_V_takeTurn_80 ⟨Nat.le_of_ble_eq_true rfl, Nat.le_of_ble_eq_true rfl⟩) rfl hP hD hS hA (fun H locs hP hD hS => ?_)
    obtain ⟨h8, h9⟩ := qs_ret hF
    exact W.vret hx hb hr (fun t ht hW => ⟨⟨u20, rfl, h9, by rw [ht]; exact hP, va_K.moved hW.alike hK, hD⟩, hS.F ht⟩) hS.2.2 d_V_takeTurn_83
  have kb_61 : ∀ (g : Sg) (x1 : Int32) (H : Heap) (locs : List Loc) (ls : Array Slot), va_P (dC, dI) vwCl (qs_W h c g) H → va_D A (qs_W h c g) → va_S A s.heap H locs → lv_has ls 3 [(0, .ref (h 5)), (1, .int (x1))] → f_V_takeTurn_61  g x1 = some ((), u0) → W p l e (headSpec (qs_ws y_V_takeTurn b_V_takeTurn 3 none) ({ frames := 6, cells := 0, slots := 0, locals := 144 } : Room)).room s m ([.ref (h 5), .int a1] : List Value).toArray below meth cd H locs 0 0 (MQ below (va_Qv (fun (u : Sg) => u = u0) (qs_at dC dI h c A) A) ([.ref (h 5), .int a1] : List Value).toArray s 0 0 A) (F0 m 61 ls []) := by
    intro g x1 H locs ls hP hD hS hl hF
    unfold f_V_takeTurn_61 at hF
    refine lv_aload_n hx hb d_V_takeTurn_61 rfl (lv_at hl 0 rfl) ?_
    refine lv_iload_n hx hb d_V_takeTurn_62 rfl (lv_at hl 1 rfl) ?_
    refine lv_iconst (v := 0) hx hb d_V_takeTurn_63 (by decide) ?_
    obtain ⟨r13, u14, hX, hF⟩ := qs_bn_some hF
    refine qs_cv (Wd := qs_W h c) (isC := [0, 1, 2, 3, 4, 5, 6, 7, 8, 9, 10, 11, 12, 13, 14, 15, 16]) (va_runV (own := "QuakeServer$Mover") (C := "QuakeServer$Mover") (As := [.int (x1), .int (0)]) (rest := []) ⟨hx, hb, hml, hown, hg⟩ (c_V_travel l dC dI h c H.size g (x1) (0)  u14 hX) (cwV 2 hg (qs_gV t_517 t_519 tp_8 t_6 t_520) rfl rfl rfl (by decide +kernel) ⟨Nat.le_of_ble_eq_true rfl, Nat.le_of_ble_eq_true rfl⟩) ⟨qs_blind, va_recv hK hP (ci := 4) (q0 := 5) rfl rfl, fun U hU hW => ⟨rfl, by rw [hU], by rw [hU]; exact hP, va_K.moved hW.alike hK, hD.weaken (fun _ _ _ _ => trivial), hNs.warm hW⟩⟩ rfl rfl hl.1 rfl (lv_room (Nat.le_of_ble_eq_true rfl)) d_V_takeTurn_64 ⟨Nat.le_of_ble_eq_true rfl, Nat.le_of_ble_eq_true rfl⟩) rfl hP hD hS hA (fun H locs hP hD hS => ?_)
    refine lv_aload_n hx hb d_V_takeTurn_67 rfl (lv_at hl 0 rfl) ?_
    refine lv_iload_n hx hb d_V_takeTurn_68 rfl (lv_at hl 1 rfl) ?_
    refine lv_iconst (v := 1) hx hb d_V_takeTurn_69 (by decide) ?_
    obtain ⟨r15, u16, hX, hF⟩ := qs_bn_some hF
    refine qs_cv (Wd := qs_W h c) (isC := [0, 1, 2, 3, 4, 5, 6, 7, 8, 9, 10, 11, 12, 13, 14, 15, 16]) (va_runV (own := "QuakeServer$Mover") (C := "QuakeServer$Mover") (As := [.int (x1), .int (1)]) (rest := []) ⟨hx, hb, hml, hown, hg⟩ (c_V_travel l dC dI h c H.size u14 (x1) (1)  u16 hX) (cwV 2 hg (qs_gV t_517 t_519 tp_8 t_6 t_520) rfl rfl rfl (by decide +kernel) ⟨Nat.le_of_ble_eq_true rfl, Nat.le_of_ble_eq_true rfl⟩) ⟨qs_blind, va_recv hK hP (ci := 4) (q0 := 5) rfl rfl, fun U hU hW => ⟨rfl, by rw [hU], by rw [hU]; exact hP, va_K.moved hW.alike hK, hD.weaken (fun _ _ _ _ => trivial), hNs.warm hW⟩⟩ rfl rfl hl.1 rfl (lv_room (Nat.le_of_ble_eq_true rfl)) d_V_takeTurn_70 ⟨Nat.le_of_ble_eq_true rfl, Nat.le_of_ble_eq_true rfl⟩) rfl hP hD hS hA (fun H locs hP hD hS => ?_)
    refine lv_aload_n hx hb d_V_takeTurn_73 rfl (lv_at hl 0 rfl) ?_
    refine lv_iload_n hx hb d_V_takeTurn_74 rfl (lv_at hl 1 rfl) ?_
    obtain ⟨r17, u18, hX, hF⟩ := qs_bn_some hF
    refine qs_cv (Wd := qs_W h c) (isC := [0, 1, 2, 3, 4, 5, 6, 7, 8, 9, 10, 11, 12, 13, 14, 15, 16]) (va_runV (own := "QuakeServer$Mover") (C := "QuakeServer$Mover") (As := [.int (x1)]) (rest := []) ⟨hx, hb, hml, hown, hg⟩ (c_V_touchTriggers l dC dI h c H.size u16 (x1)  u18 hX) (cwV 1 hg (qs_gV t_580 t_582 tp_15 t_6 t_583) rfl rfl rfl (by decide +kernel) ⟨Nat.le_of_ble_eq_true rfl, Nat.le_of_ble_eq_true rfl⟩) ⟨qs_blind, va_recv hK hP (ci := 4) (q0 := 5) rfl rfl, fun U hU hW => ⟨rfl, by rw [hU], by rw [hU]; exact hP, va_K.moved hW.alike hK, hD.weaken (fun _ _ _ _ => trivial), hNs.warm hW⟩⟩ rfl rfl hl.1 rfl (lv_room (Nat.le_of_ble_eq_true rfl)) d_V_takeTurn_75 ⟨Nat.le_of_ble_eq_true rfl, Nat.le_of_ble_eq_true rfl⟩) rfl hP hD hS hA (fun H locs hP hD hS => ?_)
    exact kb_78 u18 (x1) H locs ls hP hD hS (lv_sub hl [0, 1] rfl) hF
  have kb_46 : ∀ (g : Sg) (x1 : Int32) (x2 : Int32) (H : Heap) (locs : List Loc) (ls : Array Slot), va_P (dC, dI) vwCl (qs_W h c g) H → va_D A (qs_W h c g) → va_S A s.heap H locs → lv_has ls 3 [(0, .ref (h 5)), (1, .int (x1)), (2, .int (x2))] → f_V_takeTurn_46  g x1 x2 = some ((), u0) → W p l e (headSpec (qs_ws y_V_takeTurn b_V_takeTurn 3 none) ({ frames := 6, cells := 0, slots := 0, locals := 144 } : Room)).room s m ([.ref (h 5), .int a1] : List Value).toArray below meth cd H locs 0 0 (MQ below (va_Qv (fun (u : Sg) => u = u0) (qs_at dC dI h c A) A) ([.ref (h 5), .int a1] : List Value).toArray s 0 0 A) (F0 m 46 ls []) := by
    intro g x1 x2 H locs ls hP hD hS hl hF
    unfold f_V_takeTurn_46 at hF
    refine lv_iload_n hx hb d_V_takeTurn_46 rfl (lv_at hl 2 rfl) ?_
    refine lv_iconst (v := 1) hx hb d_V_takeTurn_47 (by decide) ?_
    refine lv_icmp_eq (tgt := 61) hx hb d_V_takeTurn_48 (by decide) (fun c10 => ?_) (fun c10 => ?_)
    · have hF := qs_pos c10 hF
      exact kb_61 g (x1) H locs ls hP hD hS (lv_sub hl [0, 1] rfl) hF
    · have hF := qs_neg c10 hF
      refine lv_iload_n hx hb d_V_takeTurn_51 rfl (lv_at hl 2 rfl) ?_
      refine lv_iconst (v := 2) hx hb d_V_takeTurn_52 (by decide) ?_
      refine lv_icmp_eq (tgt := 61) hx hb d_V_takeTurn_53 (by decide) (fun c11 => ?_) (fun c11 => ?_)
      · have hF := qs_pos c11 hF
        exact kb_61 g (x1) H locs ls hP hD hS (lv_sub hl [0, 1] rfl) hF
      · have hF := qs_neg c11 hF
        refine lv_iload_n hx hb d_V_takeTurn_56 rfl (lv_at hl 2 rfl) ?_
        refine lv_iconst (v := 3) hx hb d_V_takeTurn_57 (by decide) ?_
        refine lv_icmp_ne (tgt := 78) hx hb d_V_takeTurn_58 (by decide) (fun c12 => ?_) (fun c12 => ?_)
        · have hF := qs_neg c12 hF
          exact kb_78 g (x1) H locs ls hP hD hS (lv_sub hl [0, 1] rfl) hF
        · have hF := qs_pos c12 hF
          exact kb_61 g (x1) H locs ls hP hD hS (lv_sub hl [0, 1] rfl) hF
  have kb_21 : ∀ (g : Sg) (x1 : Int32) (x2 : Int32) (H : Heap) (locs : List Loc) (ls : Array Slot), va_P (dC, dI) vwCl (qs_W h c g) H → va_D A (qs_W h c g) → va_S A s.heap H locs → lv_has ls 3 [(0, .ref (h 5)), (1, .int (x1)), (2, .int (x2))] → f_V_takeTurn_21  g x1 x2 = some ((), u0) → W p l e (headSpec (qs_ws y_V_takeTurn b_V_takeTurn 3 none) ({ frames := 6, cells := 0, slots := 0, locals := 144 } : Room)).room s m ([.ref (h 5), .int a1] : List Value).toArray below meth cd H locs 0 0 (MQ below (va_Qv (fun (u : Sg) => u = u0) (qs_at dC dI h c A) A) ([.ref (h 5), .int a1] : List Value).toArray s 0 0 A) (F0 m 21 ls []) := by
    intro g x1 x2 H locs ls hP hD hS hl hF
    unfold f_V_takeTurn_21 at hF
    refine lv_aload_n hx hb d_V_takeTurn_21 rfl (lv_at hl 0 rfl) ?_
    refine va_get (D := (dC, dI)) (ci := 4) (v := .ref (h 1)) (C := R_V) (T := T_V) (N := 6) hx hb hg in_V hown hK hP 5 rfl rfl 0 (by decide) (hg _ t_123) (fun _ h9 => h9) rfl d_V_takeTurn_22 ?_
    refine lv_iload_n hx hb d_V_takeTurn_25 rfl (lv_at hl 1 rfl) ?_
    refine lv_iconst (v := 3) hx hb d_V_takeTurn_26 (by decide) ?_
    refine lv_aload_n hx hb d_V_takeTurn_27 rfl (lv_at hl 0 rfl) ?_
    refine va_get (D := (dC, dI)) (ci := 4) (v := .ref (h 1)) (C := R_V) (T := T_V) (N := 6) hx hb hg in_V hown hK hP 5 rfl rfl 0 (by decide) (hg _ t_123) (fun _ h9 => h9) rfl d_V_takeTurn_28 ?_
    refine lv_iload_n hx hb d_V_takeTurn_31 rfl (lv_at hl 1 rfl) ?_
    refine lv_iconst (v := 3) hx hb d_V_takeTurn_32 (by decide) ?_
    obtain ⟨r5, u6, hX, hF⟩ := qs_bn_some hF
    refine qs_ci (Wd := qs_W h c) (isC := [0, 1, 2, 3, 4, 5, 6, 7, 8, 9, 10, 11, 12, 13, 14, 15, 16]) (va_runV (own := "QuakeServer$Mover") (C := "QuakeServer$Entities") (As := [.int (x1), .int (3)]) (rest := [.int (3), .int (x1), .ref (h 1)]) ⟨hx, hb, hml, hown, hg⟩ (c_E_field l dC dI h c H.size g (x1) (3) r5 u6 hX) (cwV 2 hg (qs_gV t_514 t_192 t_193 t_2 t_194) rfl rfl rfl (by decide +kernel) ⟨Nat.le_of_ble_eq_true rfl, Nat.le_of_ble_eq_true rfl⟩) ⟨qs_blind, va_recv hK hP (ci := 0) (q0 := 1) rfl rfl, fun U hU hW => ⟨rfl, by rw [hU], by rw [hU]; exact hP, va_K.moved hW.alike hK, hD.weaken (fun _ _ _ _ => trivial), hNs.warm hW⟩⟩ rfl rfl hl.1 rfl (lv_room (Nat.le_of_ble_eq_true rfl)) d_V_takeTurn_33 ⟨Nat.le_of_ble_eq_true rfl, Nat.le_of_ble_eq_true rfl⟩) rfl hP hD hS hA (fun H locs hP hD hS => ?_)
    refine lv_bipush (v := 64) hx hb d_V_takeTurn_36 (by decide) ?_
    refine lv_isub hx hb d_V_takeTurn_38 ?_
    refine lv_i2l (v := (r5 - 64).toInt64) hx hb d_V_takeTurn_39 rfl ?_
    obtain ⟨r7, hX, hF⟩ := qs_pb_some hF
    refine qs_psi (va_runSN (own := "QuakeServer$Mover") (As := [.long ((r5 - 64).toInt64)]) (rest := [.int (3), .int (x1), .ref (h 1)]) ⟨hx, hb, hml, hown, hg⟩ (c_Q_inRange l H.size ((r5 - 64).toInt64) r7 hX) ⟨va_cnB (own := "QuakeServer$Mover") (index := 32) (host := "QuakeServer") 1 hg (qs_gc t_471) rfl rfl rfl (nM_8 hNs) (hg _ t_1) (by decide +kernel) ⟨Nat.le_of_ble_eq_true rfl, Nat.le_of_ble_eq_true rfl⟩, hg _ t_470, trivial⟩ ⟨qs_blind0, fun U hU hW => ⟨rfl, by rw [hU], hNs.warm hW⟩⟩ rfl rfl hl.1 rfl (lv_room (Nat.le_of_ble_eq_true rfl)) d_V_takeTurn_40 ⟨Nat.le_of_ble_eq_true rfl, Nat.le_of_ble_eq_true rfl⟩) hP hD hS hA (fun H locs hP hS => ?_)
    obtain ⟨r8, u9, hX, hF⟩ := qs_bn_some hF
    refine qs_cv (Wd := qs_W h c) (isC := [0, 1, 2, 3, 4, 5, 6, 7, 8, 9, 10, 11, 12, 13, 14, 15, 16]) (va_runV (own := "QuakeServer$Mover") (C := "QuakeServer$Entities") (As := [.int (x1), .int (3), .int (r7)]) (rest := []) ⟨hx, hb, hml, hown, hg⟩ (c_E_put l dC dI h c H.size u6 (x1) (3) (r7)  u9 hX) (cwV 3 hg (qs_gV t_516 t_355 t_356 t_2 t_357) rfl rfl rfl (by decide +kernel) ⟨Nat.le_of_ble_eq_true rfl, Nat.le_of_ble_eq_true rfl⟩) ⟨qs_blind, va_recv hK hP (ci := 0) (q0 := 1) rfl rfl, fun U hU hW => ⟨rfl, by rw [hU], by rw [hU]; exact hP, va_K.moved hW.alike hK, hD.weaken (fun _ _ _ _ => trivial), hNs.warm hW⟩⟩ rfl rfl hl.1 rfl (lv_room (Nat.le_of_ble_eq_true rfl)) d_V_takeTurn_43 ⟨Nat.le_of_ble_eq_true rfl, Nat.le_of_ble_eq_true rfl⟩) rfl hP hD hS hA (fun H locs hP hD hS => ?_)
    exact kb_46 u9 (x1) (x2) H locs ls hP hD hS (lv_sub hl [0, 1, 2] rfl) hF
  have hl := lv_entry ([.ref (h 5), .int a1] : List Value) (n := 3) (Nat.le_of_ble_eq_true rfl)
  rw [lg_entry_eq]
  generalize (lg_sl ([.ref (h 5), .int a1] : List Value) ++ List.replicate (3 - (lg_sl ([.ref (h 5), .int a1] : List Value)).length) Slot.unset).toArray = ls at hl ⊢
  have hl : lv_has ls 3 [(0, .ref (h 5)), (1, .int (a1))] := hl
  unfold f_V_takeTurn at hF
  obtain ⟨H, hHe⟩ : ∃ H, H = s.heap := ⟨_, rfl⟩
  obtain ⟨locs, hLe⟩ : ∃ L : List Loc, L = [] := ⟨_, rfl⟩
  rw [← hHe] at hP ⊢
  rw [← hLe]
  have hS : va_S A s.heap H locs := by rw [hHe, hLe]; exact hS
  refine lv_aload_n hx hb d_V_takeTurn_0 rfl (lv_at hl 0 rfl) ?_
  refine va_get (D := (dC, dI)) (ci := 4) (v := .ref (h 1)) (C := R_V) (T := T_V) (N := 6) hx hb hg in_V hown hK hP 5 rfl rfl 0 (by decide) (hg _ t_123) (fun _ h9 => h9) rfl d_V_takeTurn_1 ?_
  refine lv_iload_n hx hb d_V_takeTurn_4 rfl (lv_at hl 1 rfl) ?_
  refine lv_bipush (v := 6) hx hb d_V_takeTurn_5 (by decide) ?_
  obtain ⟨r1, u2, hX, hF⟩ := qs_bn_some hF
  refine qs_ci (Wd := qs_W h c) (isC := [0, 1, 2, 3, 4, 5, 6, 7, 8, 9, 10, 11, 12, 13, 14, 15, 16]) (va_runV (own := "QuakeServer$Mover") (C := "QuakeServer$Entities") (As := [.int (a1), .int (6)]) (rest := []) ⟨hx, hb, hml, hown, hg⟩ (c_E_wholeField l dC dI h c H.size g (a1) (6) r1 u2 hX) (cwV 2 hg (qs_gV t_508 t_509 t_510 t_2 t_511) rfl rfl rfl (by decide +kernel) ⟨Nat.le_of_ble_eq_true rfl, Nat.le_of_ble_eq_true rfl⟩) ⟨qs_blind, va_recv hK hP (ci := 0) (q0 := 1) rfl rfl, fun U hU hW => ⟨rfl, by rw [hU], by rw [hU]; exact hP, va_K.moved hW.alike hK, hD.weaken (fun _ _ _ _ => trivial), hNs.warm hW⟩⟩ rfl rfl hl.1 rfl (lv_room (Nat.le_of_ble_eq_true rfl)) d_V_takeTurn_7 ⟨Nat.le_of_ble_eq_true rfl, Nat.le_of_ble_eq_true rfl⟩) rfl hP hD hS hA (fun H locs hP hD hS => ?_)
  refine lv_istore_n (lv' := [(2, .int (r1)), (0, .ref (h 5)), (1, .int (a1))]) hx hb d_V_takeTurn_10 rfl hl (by decide) rfl (fun ls hl => ?_)
  refine lv_iload_n hx hb d_V_takeTurn_11 rfl (lv_at hl 0 rfl) ?_
  refine lv_iconst (v := 2) hx hb d_V_takeTurn_12 (by decide) ?_
  refine lv_icmp_eq (tgt := 21) hx hb d_V_takeTurn_13 (by decide) (fun c3 => ?_) (fun c3 => ?_)
  · have hF := qs_pos c3 hF
    exact kb_21 u2 (a1) (r1) H locs ls hP hD hS (lv_sub hl [1, 2, 0] rfl) hF
  · have hF := qs_neg c3 hF
    refine lv_iload_n hx hb d_V_takeTurn_16 rfl (lv_at hl 0 rfl) ?_
    refine lv_iconst (v := 3) hx hb d_V_takeTurn_17 (by decide) ?_
    refine lv_icmp_ne (tgt := 46) hx hb d_V_takeTurn_18 (by decide) (fun c4 => ?_) (fun c4 => ?_)
    · have hF := qs_neg c4 hF
      exact kb_46 u2 (a1) (r1) H locs ls hP hD hS (lv_sub hl [1, 2, 0] rfl) hF
    · have hF := qs_pos c4 hF
      exact kb_21 u2 (a1) (r1) H locs ls hP hD hS (lv_sub hl [1, 2, 0] rfl) hF
end
section
theorem d_L_now_0 : decode b_L_now 0 = .ok (.iload_n 1, 1) := by decide +kernel
theorem d_L_now_1 : decode b_L_now 1 = .ok (.bipush 16, 2) := by decide +kernel
theorem d_L_now_3 : decode b_L_now 3 = .ok (.idiv, 1) := by decide +kernel
theorem d_L_now_4 : decode b_L_now 4 = .ok (.istore_n 2, 1) := by decide +kernel
theorem d_L_now_5 : decode b_L_now 5 = .ok (.iload_n 1, 1) := by decide +kernel
theorem d_L_now_6 : decode b_L_now 6 = .ok (.bipush 16, 2) := by decide +kernel
theorem d_L_now_8 : decode b_L_now 8 = .ok (.irem, 1) := by decide +kernel
theorem d_L_now_9 : decode b_L_now 9 = .ok (.istore_n 3, 1) := by decide +kernel
theorem d_L_now_10 : decode b_L_now 10 = .ok (.iload_n 3, 1) := by decide +kernel
theorem d_L_now_11 : decode b_L_now 11 = .ok (.bipush 15, 2) := by decide +kernel
theorem d_L_now_13 : decode b_L_now 13 = .ok (.if_icmp .ne 20, 3) := by decide +kernel
theorem d_L_now_16 : decode b_L_now 16 = .ok (.aload_n 0, 1) := by decide +kernel
theorem d_L_now_17 : decode b_L_now 17 = .ok (.getfield 15, 3) := by decide +kernel
theorem d_L_now_20 : decode b_L_now 20 = .ok (.iload_n 2, 1) := by decide +kernel
theorem d_L_now_21 : decode b_L_now 21 = .ok (.invokevirtual 19, 3) := by decide +kernel
theorem d_L_now_24 : decode b_L_now 24 = .ok (.ifCond .eq 7, 3) := by decide +kernel
theorem d_L_now_27 : decode b_L_now 27 = .ok (.iconst 1, 1) := by decide +kernel
theorem d_L_now_28 : decode b_L_now 28 = .ok (.goto 4, 3) := by decide +kernel
theorem d_L_now_31 : decode b_L_now 31 = .ok (.iconst 0, 1) := by decide +kernel
theorem d_L_now_32 : decode b_L_now 32 = .ok (.ireturn, 1) := by decide +kernel
theorem d_L_now_33 : decode b_L_now 33 = .ok (.iload_n 3, 1) := by decide +kernel
theorem d_L_now_34 : decode b_L_now 34 = .ok (.bipush 8, 2) := by decide +kernel
theorem d_L_now_36 : decode b_L_now 36 = .ok (.if_icmp .ge 15, 3) := by decide +kernel
theorem d_L_now_39 : decode b_L_now 39 = .ok (.aload_n 0, 1) := by decide +kernel
theorem d_L_now_40 : decode b_L_now 40 = .ok (.getfield 15, 3) := by decide +kernel
theorem d_L_now_43 : decode b_L_now 43 = .ok (.iload_n 2, 1) := by decide +kernel
theorem d_L_now_44 : decode b_L_now 44 = .ok (.iload_n 3, 1) := by decide +kernel
theorem d_L_now_45 : decode b_L_now 45 = .ok (.invokevirtual 25, 3) := by decide +kernel
theorem d_L_now_48 : decode b_L_now 48 = .ok (.goto 4, 3) := by decide +kernel
theorem d_L_now_51 : decode b_L_now 51 = .ok (.iconst 0, 1) := by decide +kernel
theorem d_L_now_52 : decode b_L_now 52 = .ok (.ireturn, 1) := by decide +kernel
def f_L_now (g : Sg) (a1 : Int32) : Option (Int32 × Sg) := (if (a1 - a1 / 16 * 16) = 15 then (qs_bn (f_E_isThere g (a1 / 16)) fun r5 u6 => (if r5 = 0 then (some (0, u6)) else (some (1, u6)))) else (if 8 ≤ (a1 - a1 / 16 * 16) then (some (0, g)) else (qs_bn (f_E_field g (a1 / 16) (a1 - a1 / 16 * 16)) fun r3 u4 => (some (r3, u4)))))
set_option maxHeartbeats 4000000 in
set_option maxRecDepth 100000 in
theorem c_L_now (l : Launch) (dC : Nat → ClassId) (dI : Nat → Nat → Nat) (h : Nat → Nat) (c : Nat → ClassId) (sz : Nat) (g : Sg) (a1 : Int32) (r0 : Int32) (u0 : Sg) (hF : f_L_now g a1 = some (r0, u0)) : Met l y_L_now (qs_ws y_L_now b_L_now 4 (some .int)) ({ frames := 1, cells := 0, slots := 0, locals := 22 } : Room) (va_Pc ([.ref (h 6), .int a1] : List Value) (fun U => U.heap.size = sz ∧ va_P (dC, dI) vwCl (qs_W h c g) U.heap ∧ va_K (dC, dI) vwCl (qs_T c) U ∧ va_D (fun _ => True) (qs_W h c g) ∧ qs_N U)) (va_Qi (fun (r : Int32) (u : Sg) => r = r0 ∧ u = u0) (qs_at dC dI h c (va_A (qs_W h c g) sz)) (va_A (qs_W h c g) sz)) 0 0 (va_A (qs_W h c g) sz) := by
  refine Met.ofW (cc := b_L_now) (maxL := 4) (ret := (some .int)) (by decide +kernel) rfl ?_
  intro p e s m args below meth cd s₁ B hml hv
  obtain ⟨rfl, hsz, hP, hK, hD0, hNs⟩ := hv
  have hx := B.exec
  have hb := B.bytes
  have hr := B.returns
  have hts := atoms_spec (ws := (qs_ws y_L_now b_L_now 4 (some .int))) B.pre
  have hg : ∀ w ∈ qs_gt, w.before _ s = true := fun w h => hts w (List.mem_cons_of_mem _ h)
  have hown : s.vm.findClass R_L = some m.cls := findClass_of_methodNamed B.named
  have hlocks := B.notSynchronized
  subst hsz
  have hD := hD0.self (sz := s.heap.size)
  generalize hAe : va_A (qs_W h c g) s.heap.size = A at hD ⊢
  have hA : ∀ q : Nat, s.heap.size ≤ q → A q := fun q h => by rw [← hAe]; exact Or.inr h
  have hS : va_S A s.heap s.heap [] := va_S.rf
  have hl := lv_entry ([.ref (h 6), .int a1] : List Value) (n := 4) (Nat.le_of_ble_eq_true rfl)
  rw [lg_entry_eq]
  generalize (lg_sl ([.ref (h 6), .int a1] : List Value) ++ List.replicate (4 - (lg_sl ([.ref (h 6), .int a1] : List Value)).length) Slot.unset).toArray = ls at hl ⊢
  have hl : lv_has ls 4 [(0, .ref (h 6)), (1, .int (a1))] := hl
  unfold f_L_now at hF
  obtain ⟨H, hHe⟩ : ∃ H, H = s.heap := ⟨_, rfl⟩
  obtain ⟨locs, hLe⟩ : ∃ L : List Loc, L = [] := ⟨_, rfl⟩
  rw [← hHe] at hP ⊢
  rw [← hLe]
  have hS : va_S A s.heap H locs := by rw [hHe, hLe]; exact hS
  refine lv_iload_n hx hb d_L_now_0 rfl (lv_at hl 1 rfl) ?_
  refine lv_bipush (v := 16) hx hb d_L_now_1 (by decide) ?_
  refine lv_idiv hx hb d_L_now_3 (by decide) ?_
  refine lv_istore_n (lv' := [(2, .int (a1 / 16)), (0, .ref (h 6)), (1, .int (a1))]) hx hb d_L_now_4 rfl hl (by decide) rfl (fun ls hl => ?_)
  refine lv_iload_n hx hb d_L_now_5 rfl (lv_at hl 2 rfl) ?_
  refine lv_bipush (v := 16) hx hb d_L_now_6 (by decide) ?_
  refine lv_irem hx hb d_L_now_8 (by decide) ?_
  refine lv_istore_n (lv' := [(3, .int (a1 - a1 / 16 * 16)), (2, .int (a1 / 16)), (0, .ref (h 6)), (1, .int (a1))]) hx hb d_L_now_9 rfl hl (by decide) rfl (fun ls hl => ?_)
  refine lv_iload_n hx hb d_L_now_10 rfl (lv_at hl 0 rfl) ?_
  refine lv_bipush (v := 15) hx hb d_L_now_11 (by decide) ?_
  refine lv_icmp_ne (tgt := 33) hx hb d_L_now_13 (by decide) (fun c1 => ?_) (fun c1 => ?_)
  · have hF := qs_neg c1 hF
    refine lv_iload_n hx hb d_L_now_33 rfl (lv_at hl 0 rfl) ?_
    refine lv_bipush (v := 8) hx hb d_L_now_34 (by decide) ?_
    refine lv_icmp_ge (tgt := 51) hx hb d_L_now_36 (by decide) (fun c2 => ?_) (fun c2 => ?_)
    · have hF := qs_pos c2 hF
      refine lv_iconst (v := 0) hx hb d_L_now_51 (by decide) ?_
      obtain ⟨h8, h9⟩ := qs_ret hF
      exact W.iret (v := 0) hx hb hr (fun t ht hW => ⟨⟨0, g, rfl, ⟨h8, h9⟩, by rw [ht]; exact hP, va_K.moved hW.alike hK, hD⟩, hS.F ht⟩) hS.2.2 d_L_now_52
    · have hF := qs_neg c2 hF
      refine lv_aload_n hx hb d_L_now_39 rfl (lv_at hl 2 rfl) ?_
      refine va_get (D := (dC, dI)) (ci := 5) (v := .ref (h 1)) (C := R_L) (T := T_L) (N := 2) hx hb hg in_L hown hK hP 6 rfl rfl 0 (by decide) (hg _ t_149) (fun _ h9 => h9) rfl d_L_now_40 ?_
      refine lv_iload_n hx hb d_L_now_43 rfl (lv_at hl 1 rfl) ?_
      refine lv_iload_n hx hb d_L_now_44 rfl (lv_at hl 0 rfl) ?_
      obtain ⟨r3, u4, hX, hF⟩ := qs_bn_some hF
      refine qs_ci (Wd := qs_W h c) (isC := [0, 1, 2, 3, 4, 5, 6, 7, 8, 9, 10, 11, 12, 13, 14, 15, 16]) (va_runV (own := "QuakeServer$LastMessage") (C := "QuakeServer$Entities") (As := [.int (a1 / 16), .int (a1 - a1 / 16 * 16)]) (rest := []) ⟨hx, hb, hml, hown, hg⟩ (c_E_field l dC dI h c H.size g (a1 / 16) (a1 - a1 / 16 * 16) r3 u4 hX) (cwV 2 hg (qs_gV t_191 t_192 t_193 t_2 t_194) rfl rfl rfl (by decide +kernel) ⟨Nat.le_of_ble_eq_true rfl, Nat.le_of_ble_eq_true rfl⟩) ⟨qs_blind, va_recv hK hP (ci := 0) (q0 := 1) rfl rfl, fun U hU hW => ⟨rfl, by rw [hU], by rw [hU]; exact hP, va_K.moved hW.alike hK, hD.weaken (fun _ _ _ _ => trivial), hNs.warm hW⟩⟩ rfl rfl hl.1 rfl (lv_room (Nat.le_of_ble_eq_true rfl)) d_L_now_45 ⟨Nat.le_of_ble_eq_true rfl, Nat.le_of_ble_eq_true rfl⟩) rfl hP hD hS hA (fun H locs hP hD hS => ?_)
      refine lv_goto (tgt := 52) hx hb d_L_now_48 (by decide) ?_
      obtain ⟨h8, h9⟩ := qs_ret hF
      exact W.iret (v := r3) hx hb hr (fun t ht hW => ⟨⟨r3, u4, rfl, ⟨h8, h9⟩, by rw [ht]; exact hP, va_K.moved hW.alike hK, hD⟩, hS.F ht⟩) hS.2.2 d_L_now_52
  · have hF := qs_pos c1 hF
    refine lv_aload_n hx hb d_L_now_16 rfl (lv_at hl 2 rfl) ?_
    refine va_get (D := (dC, dI)) (ci := 5) (v := .ref (h 1)) (C := R_L) (T := T_L) (N := 2) hx hb hg in_L hown hK hP 6 rfl rfl 0 (by decide) (hg _ t_149) (fun _ h9 => h9) rfl d_L_now_17 ?_
    refine lv_iload_n hx hb d_L_now_20 rfl (lv_at hl 1 rfl) ?_
    obtain ⟨r5, u6, hX, hF⟩ := qs_bn_some hF
    refine qs_ci (Wd := qs_W h c) (isC := [0, 1, 2, 3, 4, 5, 6, 7, 8, 9, 10, 11, 12, 13, 14, 15, 16]) (va_runV (own := "QuakeServer$LastMessage") (C := "QuakeServer$Entities") (As := [.int (a1 / 16)]) (rest := []) ⟨hx, hb, hml, hown, hg⟩ (c_E_isThere l dC dI h c H.size g (a1 / 16) r5 u6 hX) (cwV 1 hg (qs_gV t_187 t_188 t_189 t_2 t_190) rfl rfl rfl (by decide +kernel) ⟨Nat.le_of_ble_eq_true rfl, Nat.le_of_ble_eq_true rfl⟩) ⟨qs_blind, va_recv hK hP (ci := 0) (q0 := 1) rfl rfl, fun U hU hW => ⟨rfl, by rw [hU], by rw [hU]; exact hP, va_K.moved hW.alike hK, hD.weaken (fun _ _ _ _ => trivial), hNs.warm hW⟩⟩ rfl rfl hl.1 rfl (lv_room (Nat.le_of_ble_eq_true rfl)) d_L_now_21 ⟨Nat.le_of_ble_eq_true rfl, Nat.le_of_ble_eq_true rfl⟩) rfl hP hD hS hA (fun H locs hP hD hS => ?_)
    refine lv_if_eq (tgt := 31) hx hb d_L_now_24 (by decide) (fun c7 => ?_) (fun c7 => ?_)
    · have hF := qs_pos c7 hF
      refine lv_iconst (v := 0) hx hb d_L_now_31 (by decide) ?_
      obtain ⟨h8, h9⟩ := qs_ret hF
      exact W.iret (v := 0) hx hb hr (fun t ht hW => ⟨⟨0, u6, rfl, ⟨h8, h9⟩, by rw [ht]; exact hP, va_K.moved hW.alike hK, hD⟩, hS.F ht⟩) hS.2.2 d_L_now_32
    · have hF := qs_neg c7 hF
      refine lv_iconst (v := 1) hx hb d_L_now_27 (by decide) ?_
      refine lv_goto (tgt := 32) hx hb d_L_now_28 (by decide) ?_
      obtain ⟨h8, h9⟩ := qs_ret hF
      exact W.iret (v := 1) hx hb hr (fun t ht hW => ⟨⟨1, u6, rfl, ⟨h8, h9⟩, by rw [ht]; exact hP, va_K.moved hW.alike hK, hD⟩, hS.F ht⟩) hS.2.2 d_L_now_32

theorem d_L_differences_0 : decode b_L_differences 0 = .ok (.iconst 0, 1) := by decide +kernel
theorem d_L_differences_1 : decode b_L_differences 1 = .ok (.istore_n 1, 1) := by decide +kernel
theorem d_L_differences_2 : decode b_L_differences 2 = .ok (.iconst 0, 1) := by decide +kernel
theorem d_L_differences_3 : decode b_L_differences 3 = .ok (.istore_n 2, 1) := by decide +kernel
theorem d_L_differences_4 : decode b_L_differences 4 = .ok (.iload_n 2, 1) := by decide +kernel
theorem d_L_differences_5 : decode b_L_differences 5 = .ok (.aload_n 0, 1) := by decide +kernel
theorem d_L_differences_6 : decode b_L_differences 6 = .ok (.getfield 9, 3) := by decide +kernel
theorem d_L_differences_9 : decode b_L_differences 9 = .ok (.arraylength, 1) := by decide +kernel
theorem d_L_differences_10 : decode b_L_differences 10 = .ok (.if_icmp .ge 26, 3) := by decide +kernel
theorem d_L_differences_13 : decode b_L_differences 13 = .ok (.aload_n 0, 1) := by decide +kernel
theorem d_L_differences_14 : decode b_L_differences 14 = .ok (.iload_n 2, 1) := by decide +kernel
theorem d_L_differences_15 : decode b_L_differences 15 = .ok (.invokevirtual 29, 3) := by decide +kernel
theorem d_L_differences_18 : decode b_L_differences 18 = .ok (.aload_n 0, 1) := by decide +kernel
theorem d_L_differences_19 : decode b_L_differences 19 = .ok (.getfield 9, 3) := by decide +kernel
theorem d_L_differences_22 : decode b_L_differences 22 = .ok (.iload_n 2, 1) := by decide +kernel
theorem d_L_differences_23 : decode b_L_differences 23 = .ok (.iaload, 1) := by decide +kernel
theorem d_L_differences_24 : decode b_L_differences 24 = .ok (.if_icmp .eq 6, 3) := by decide +kernel
theorem d_L_differences_27 : decode b_L_differences 27 = .ok (.iinc 1 1, 3) := by decide +kernel
theorem d_L_differences_30 : decode b_L_differences 30 = .ok (.iinc 2 1, 3) := by decide +kernel
theorem d_L_differences_33 : decode b_L_differences 33 = .ok (.goto (-29), 3) := by decide +kernel
theorem d_L_differences_36 : decode b_L_differences 36 = .ok (.iload_n 1, 1) := by decide +kernel
theorem d_L_differences_37 : decode b_L_differences 37 = .ok (.ireturn, 1) := by decide +kernel
def f_L_differences_30 (k4 : Sg → Int32 → Int32 → Option (Int32 × Sg)) (g : Sg) (x1 : Int32) (x2 : Int32) : Option (Int32 × Sg) := (k4 g (x1) (x2 + 1))
def f_L_differences_4  : Nat → Sg → Int32 → Int32 → Option (Int32 × Sg)
  | 0, _, _, _ => none
  | n + 1, g, x1, x2 => (if 192 ≤ x2 then (some (x1, g)) else (qs_bn (f_L_now g (x2)) fun r2 u3 => (qs_in (x2) 192 (if r2 = (u3 16 x2.toNatClampNeg) then (f_L_differences_30 (fun g x1 x2 => f_L_differences_4  n g x1 x2) u3 (x1) (x2)) else (f_L_differences_30 (fun g x1 x2 => f_L_differences_4  n g x1 x2) u3 (x1 + 1) (x2))))))
def f_L_differences (g : Sg)  : Option (Int32 × Sg) := (f_L_differences_4 200 g (0) (0))
set_option maxHeartbeats 4000000 in
set_option maxRecDepth 100000 in
theorem c_L_differences (l : Launch) (dC : Nat → ClassId) (dI : Nat → Nat → Nat) (h : Nat → Nat) (c : Nat → ClassId) (sz : Nat) (g : Sg)  (r0 : Int32) (u0 : Sg) (hF : f_L_differences g  = some (r0, u0)) : Met l y_L_differences (qs_ws y_L_differences b_L_differences 3 (some .int)) ({ frames := 2, cells := 0, slots := 0, locals := 45 } : Room) (va_Pc ([.ref (h 6)] : List Value) (fun U => U.heap.size = sz ∧ va_P (dC, dI) vwCl (qs_W h c g) U.heap ∧ va_K (dC, dI) vwCl (qs_T c) U ∧ va_D (fun _ => True) (qs_W h c g) ∧ qs_N U)) (va_Qi (fun (r : Int32) (u : Sg) => r = r0 ∧ u = u0) (qs_at dC dI h c (va_A (qs_W h c g) sz)) (va_A (qs_W h c g) sz)) 0 0 (va_A (qs_W h c g) sz) := by
  refine Met.ofW (cc := b_L_differences) (maxL := 3) (ret := (some .int)) (by decide +kernel) rfl ?_
  intro p e s m args below meth cd s₁ B hml hv
  obtain ⟨rfl, hsz, hP, hK, hD0, hNs⟩ := hv
  have hx := B.exec
  have hb := B.bytes
  have hr := B.returns
  have hts := atoms_spec (ws := (qs_ws y_L_differences b_L_differences 3 (some .int))) B.pre
  have hg : ∀ w ∈ qs_gt, w.before _ s = true := fun w h => hts w (List.mem_cons_of_mem _ h)
  have hown : s.vm.findClass R_L = some m.cls := findClass_of_methodNamed B.named
  have hlocks := B.notSynchronized
  subst hsz
  have hD := hD0.self (sz := s.heap.size)
  generalize hAe : va_A (qs_W h c g) s.heap.size = A at hD ⊢
  have hA : ∀ q : Nat, s.heap.size ≤ q → A q := fun q h => by rw [← hAe]; exact Or.inr h
  have hS : va_S A s.heap s.heap [] := va_S.rf
  have kb_30 : ∀ (k4 : Sg → Int32 → Int32 → Option (Int32 × Sg)), (∀ (g : Sg) (x1 : Int32) (x2 : Int32) (H : Heap) (locs : List Loc) (ls : Array Slot), va_P (dC, dI) vwCl (qs_W h c g) H → va_D A (qs_W h c g) → va_S A s.heap H locs → lv_has ls 3 [(0, .ref (h 6)), (1, .int (x1)), (2, .int (x2))] → k4 g x1 x2 = some (r0, u0) → W p l e (headSpec (qs_ws y_L_differences b_L_differences 3 (some .int)) ({ frames := 2, cells := 0, slots := 0, locals := 45 } : Room)).room s m ([.ref (h 6)] : List Value).toArray below meth cd H locs 0 0 (MQ below (va_Qi (fun (r : Int32) (u : Sg) => r = r0 ∧ u = u0) (qs_at dC dI h c A) A) ([.ref (h 6)] : List Value).toArray s 0 0 A) (F0 m 4 ls [])) → ∀ (g : Sg) (x1 : Int32) (x2 : Int32) (H : Heap) (locs : List Loc) (ls : Array Slot), va_P (dC, dI) vwCl (qs_W h c g) H → va_D A (qs_W h c g) → va_S A s.heap H locs → lv_has ls 3 [(0, .ref (h 6)), (1, .int (x1)), (2, .int (x2))] → f_L_differences_30 k4  g x1 x2 = some (r0, u0) → W p l e (headSpec (qs_ws y_L_differences b_L_differences 3 (some .int)) ({ frames := 2, cells := 0, slots := 0, locals := 45 } : Room)).room s m ([.ref (h 6)] : List Value).toArray below meth cd H locs 0 0 (MQ below (va_Qi (fun (r : Int32) (u : Sg) => r = r0 ∧ u = u0) (qs_at dC dI h c A) A) ([.ref (h 6)] : List Value).toArray s 0 0 A) (F0 m 30 ls []) := by
    intro k4 hk4
    intro g x1 x2 H locs ls hP hD hS hl hF
    unfold f_L_differences_30 at hF
    refine lv_iinc (v := x2 + 1) (lv' := [(2, .int (x2 + 1)), (0, .ref (h 6)), (1, .int (x1))]) hx hb d_L_differences_30 hl (k := 2) rfl (by rfl) (by decide) rfl (fun ls hl => ?_)
    refine lv_goto (tgt := 4) hx hb d_L_differences_33 (by decide) ?_
    exact hk4 g (x1) (x2 + 1) H locs ls hP hD hS (lv_sub hl [1, 2, 0] rfl) hF
  have kb_4 : ∀ n : Nat, ∀ (g : Sg) (x1 : Int32) (x2 : Int32) (H : Heap) (locs : List Loc) (ls : Array Slot), va_P (dC, dI) vwCl (qs_W h c g) H → va_D A (qs_W h c g) → va_S A s.heap H locs → lv_has ls 3 [(0, .ref (h 6)), (1, .int (x1)), (2, .int (x2))] → f_L_differences_4 n g x1 x2 = some (r0, u0) → W p l e (headSpec (qs_ws y_L_differences b_L_differences 3 (some .int)) ({ frames := 2, cells := 0, slots := 0, locals := 45 } : Room)).room s m ([.ref (h 6)] : List Value).toArray below meth cd H locs 0 0 (MQ below (va_Qi (fun (r : Int32) (u : Sg) => r = r0 ∧ u = u0) (qs_at dC dI h c A) A) ([.ref (h 6)] : List Value).toArray s 0 0 A) (F0 m 4 ls []) := by
    intro n
    induction n with
    | zero =>
      intro g x1 x2 H locs ls hP hD hS hl hF
      exact nomatch (show (none : Option (Int32 × Sg)) = some _ from hF)
    | succ n ih =>
      intro g x1 x2 H locs ls hP hD hS hl hF
      rw [f_L_differences_4] at hF
      refine lv_iload_n hx hb d_L_differences_4 rfl (lv_at hl 2 rfl) ?_
      refine lv_aload_n hx hb d_L_differences_5 rfl (lv_at hl 0 rfl) ?_
      refine va_get (D := (dC, dI)) (ci := 5) (v := .ref (h 16)) (C := R_L) (T := T_L) (N := 2) hx hb hg in_L hown hK hP 6 rfl rfl 1 (by decide) (hg _ t_150) (fun _ h9 => h9) rfl d_L_differences_6 ?_
      refine va_alen (v := 192) hx hb hK hP 16 9 rfl rfl (show Int32.ofNat 192 = 192 by decide) d_L_differences_9 ?_
      refine lv_icmp_ge (tgt := 36) hx hb d_L_differences_10 (by decide) (fun c1 => ?_) (fun c1 => ?_)
      · have hF := qs_pos c1 hF
        refine lv_iload_n hx hb d_L_differences_36 rfl (lv_at hl 1 rfl) ?_
        obtain ⟨h8, h9⟩ := qs_ret hF
        exact W.iret (v := x1) hx hb hr (fun t ht hW => ⟨⟨x1, g, rfl, ⟨h8, h9⟩, by rw [ht]; exact hP, va_K.moved hW.alike hK, hD⟩, hS.F ht⟩) hS.2.2 d_L_differences_37
      · have hF := qs_neg c1 hF
        refine lv_aload_n hx hb d_L_differences_13 rfl (lv_at hl 0 rfl) ?_
        refine lv_iload_n hx hb d_L_differences_14 rfl (lv_at hl 2 rfl) ?_
        obtain ⟨r2, u3, hX, hF⟩ := qs_bn_some hF
        refine qs_ci (Wd := qs_W h c) (isC := [0, 1, 2, 3, 4, 5, 6, 7, 8, 9, 10, 11, 12, 13, 14, 15, 16]) (va_runV (own := "QuakeServer$LastMessage") (C := "QuakeServer$LastMessage") (As := [.int (x2)]) (rest := []) ⟨hx, hb, hml, hown, hg⟩ (c_L_now l dC dI h c H.size g (x2) r2 u3 hX) (cwV 1 hg (qs_gV t_183 t_185 tp_0 t_7 t_186) rfl rfl rfl (by decide +kernel) ⟨Nat.le_of_ble_eq_true rfl, Nat.le_of_ble_eq_true rfl⟩) ⟨qs_blind, va_recv hK hP (ci := 5) (q0 := 6) rfl rfl, fun U hU hW => ⟨rfl, by rw [hU], by rw [hU]; exact hP, va_K.moved hW.alike hK, hD.weaken (fun _ _ _ _ => trivial), hNs.warm hW⟩⟩ rfl rfl hl.1 rfl (lv_room (Nat.le_of_ble_eq_true rfl)) d_L_differences_15 ⟨Nat.le_of_ble_eq_true rfl, Nat.le_of_ble_eq_true rfl⟩) rfl hP hD hS hA (fun H locs hP hD hS => ?_)
        refine lv_aload_n hx hb d_L_differences_18 rfl (lv_at hl 0 rfl) ?_
        refine va_get (D := (dC, dI)) (ci := 5) (v := .ref (h 16)) (C := R_L) (T := T_L) (N := 2) hx hb hg in_L hown hK hP 6 rfl rfl 1 (by decide) (hg _ t_150) (fun _ h9 => h9) rfl d_L_differences_19 ?_
        refine lv_iload_n hx hb d_L_differences_22 rfl (lv_at hl 2 rfl) ?_
        obtain ⟨c4, hF⟩ := qs_in_some hF
        refine va_iald hx hb hK hP 16 9 rfl rfl c4 d_L_differences_23 ?_
        refine lv_icmp_eq (tgt := 30) hx hb d_L_differences_24 (by decide) (fun c5 => ?_) (fun c5 => ?_)
        · have hF := qs_pos c5 hF
          exact kb_30 _ ih u3 (x1) (x2) H locs ls hP hD hS (lv_sub hl [0, 1, 2] rfl) hF
        · have hF := qs_neg c5 hF
          refine lv_iinc (v := x1 + 1) (lv' := [(1, .int (x1 + 1)), (0, .ref (h 6)), (2, .int (x2))]) hx hb d_L_differences_27 hl (k := 1) rfl (by rfl) (by decide) rfl (fun ls hl => ?_)
          exact kb_30 _ ih u3 (x1 + 1) (x2) H locs ls hP hD hS (lv_sub hl [1, 0, 2] rfl) hF
  have hl := lv_entry ([.ref (h 6)] : List Value) (n := 3) (Nat.le_of_ble_eq_true rfl)
  rw [lg_entry_eq]
  generalize (lg_sl ([.ref (h 6)] : List Value) ++ List.replicate (3 - (lg_sl ([.ref (h 6)] : List Value)).length) Slot.unset).toArray = ls at hl ⊢
  have hl : lv_has ls 3 [(0, .ref (h 6))] := hl
  unfold f_L_differences at hF
  obtain ⟨H, hHe⟩ : ∃ H, H = s.heap := ⟨_, rfl⟩
  obtain ⟨locs, hLe⟩ : ∃ L : List Loc, L = [] := ⟨_, rfl⟩
  rw [← hHe] at hP ⊢
  rw [← hLe]
  have hS : va_S A s.heap H locs := by rw [hHe, hLe]; exact hS
  refine lv_iconst (v := 0) hx hb d_L_differences_0 (by decide) ?_
  refine lv_istore_n (lv' := [(1, .int (0)), (0, .ref (h 6))]) hx hb d_L_differences_1 rfl hl (by decide) rfl (fun ls hl => ?_)
  refine lv_iconst (v := 0) hx hb d_L_differences_2 (by decide) ?_
  refine lv_istore_n (lv' := [(2, .int (0)), (1, .int (0)), (0, .ref (h 6))]) hx hb d_L_differences_3 rfl hl (by decide) rfl (fun ls hl => ?_)
  exact kb_4 200 g (0) (0) H locs ls hP hD hS (lv_sub hl [2, 1, 0] rfl) hF

theorem d_L_difference_0 : decode b_L_difference 0 = .ok (.iconst 0, 1) := by decide +kernel
theorem d_L_difference_1 : decode b_L_difference 1 = .ok (.istore_n 2, 1) := by decide +kernel
theorem d_L_difference_2 : decode b_L_difference 2 = .ok (.iconst 0, 1) := by decide +kernel
theorem d_L_difference_3 : decode b_L_difference 3 = .ok (.istore_n 3, 1) := by decide +kernel
theorem d_L_difference_4 : decode b_L_difference 4 = .ok (.iload_n 3, 1) := by decide +kernel
theorem d_L_difference_5 : decode b_L_difference 5 = .ok (.aload_n 0, 1) := by decide +kernel
theorem d_L_difference_6 : decode b_L_difference 6 = .ok (.getfield 9, 3) := by decide +kernel
theorem d_L_difference_9 : decode b_L_difference 9 = .ok (.arraylength, 1) := by decide +kernel
theorem d_L_difference_10 : decode b_L_difference 10 = .ok (.if_icmp .ge 33, 3) := by decide +kernel
theorem d_L_difference_13 : decode b_L_difference 13 = .ok (.aload_n 0, 1) := by decide +kernel
theorem d_L_difference_14 : decode b_L_difference 14 = .ok (.iload_n 3, 1) := by decide +kernel
theorem d_L_difference_15 : decode b_L_difference 15 = .ok (.invokevirtual 29, 3) := by decide +kernel
theorem d_L_difference_18 : decode b_L_difference 18 = .ok (.aload_n 0, 1) := by decide +kernel
theorem d_L_difference_19 : decode b_L_difference 19 = .ok (.getfield 9, 3) := by decide +kernel
theorem d_L_difference_22 : decode b_L_difference 22 = .ok (.iload_n 3, 1) := by decide +kernel
theorem d_L_difference_23 : decode b_L_difference 23 = .ok (.iaload, 1) := by decide +kernel
theorem d_L_difference_24 : decode b_L_difference 24 = .ok (.if_icmp .eq 13, 3) := by decide +kernel
theorem d_L_difference_27 : decode b_L_difference 27 = .ok (.iload_n 2, 1) := by decide +kernel
theorem d_L_difference_28 : decode b_L_difference 28 = .ok (.iload_n 1, 1) := by decide +kernel
theorem d_L_difference_29 : decode b_L_difference 29 = .ok (.if_icmp .ne 5, 3) := by decide +kernel
theorem d_L_difference_32 : decode b_L_difference 32 = .ok (.iload_n 3, 1) := by decide +kernel
theorem d_L_difference_33 : decode b_L_difference 33 = .ok (.ireturn, 1) := by decide +kernel
theorem d_L_difference_34 : decode b_L_difference 34 = .ok (.iinc 2 1, 3) := by decide +kernel
theorem d_L_difference_37 : decode b_L_difference 37 = .ok (.iinc 3 1, 3) := by decide +kernel
theorem d_L_difference_40 : decode b_L_difference 40 = .ok (.goto (-36), 3) := by decide +kernel
theorem d_L_difference_43 : decode b_L_difference 43 = .ok (.bipush (-2), 2) := by decide +kernel
theorem d_L_difference_45 : decode b_L_difference 45 = .ok (.ireturn, 1) := by decide +kernel
def f_L_difference_37 (k4 : Sg → Int32 → Int32 → Int32 → Option (Int32 × Sg)) (g : Sg) (x1 : Int32) (x2 : Int32) (x3 : Int32) : Option (Int32 × Sg) := (k4 g (x1) (x2) (x3 + 1))
def f_L_difference_4  : Nat → Sg → Int32 → Int32 → Int32 → Option (Int32 × Sg)
  | 0, _, _, _, _ => none
  | n + 1, g, x1, x2, x3 => (if 192 ≤ x3 then (some ((-2), g)) else (qs_bn (f_L_now g (x3)) fun r2 u3 => (qs_in (x3) 192 (if r2 = (u3 16 x3.toNatClampNeg) then (f_L_difference_37 (fun g x1 x2 x3 => f_L_difference_4  n g x1 x2 x3) u3 (x1) (x2) (x3)) else (if x2 = x1 then (some (x3, u3)) else (f_L_difference_37 (fun g x1 x2 x3 => f_L_difference_4  n g x1 x2 x3) u3 (x1) (x2 + 1) (x3)))))))
def f_L_difference (g : Sg) (a1 : Int32) : Option (Int32 × Sg) := (f_L_difference_4 200 g (a1) (0) (0))
set_option maxHeartbeats 4000000 in
set_option maxRecDepth 100000 in
theorem c_L_difference (l : Launch) (dC : Nat → ClassId) (dI : Nat → Nat → Nat) (h : Nat → Nat) (c : Nat → ClassId) (sz : Nat) (g : Sg) (a1 : Int32) (r0 : Int32) (u0 : Sg) (hF : f_L_difference g a1 = some (r0, u0)) : Met l y_L_difference (qs_ws y_L_difference b_L_difference 4 (some .int)) ({ frames := 2, cells := 0, slots := 0, locals := 45 } : Room) (va_Pc ([.ref (h 6), .int a1] : List Value) (fun U => U.heap.size = sz ∧ va_P (dC, dI) vwCl (qs_W h c g) U.heap ∧ va_K (dC, dI) vwCl (qs_T c) U ∧ va_D (fun _ => True) (qs_W h c g) ∧ qs_N U)) (va_Qi (fun (r : Int32) (u : Sg) => r = r0 ∧ u = u0) (qs_at dC dI h c (va_A (qs_W h c g) sz)) (va_A (qs_W h c g) sz)) 0 0 (va_A (qs_W h c g) sz) := by
  refine Met.ofW (cc := b_L_difference) (maxL := 4) (ret := (some .int)) (by decide +kernel) rfl ?_
  intro p e s m args below meth cd s₁ B hml hv
  obtain ⟨rfl, hsz, hP, hK, hD0, hNs⟩ := hv
  have hx := B.exec
  have hb := B.bytes
  have hr := B.returns
  have hts := atoms_spec (ws := (qs_ws y_L_difference b_L_difference 4 (some .int))) B.pre
  have hg : ∀ w ∈ qs_gt, w.before _ s = true := fun w h => hts w (List.mem_cons_of_mem _ h)
  have hown : s.vm.findClass R_L = some m.cls := findClass_of_methodNamed B.named
  have hlocks := B.notSynchronized
  subst hsz
  have hD := hD0.self (sz := s.heap.size)
  generalize hAe : va_A (qs_W h c g) s.heap.size = A at hD ⊢
  have hA : ∀ q : Nat, s.heap.size ≤ q → A q := fun q h => by rw [← hAe]; exact Or.inr h
  have hS : va_S A s.heap s.heap [] := va_S.rf
  have kb_37 : ∀ (k4 : Sg → Int32 → Int32 → Int32 → Option (Int32 × Sg)), (∀ (g : Sg) (x1 : Int32) (x2 : Int32) (x3 : Int32) (H : Heap) (locs : List Loc) (ls : Array Slot), va_P (dC, dI) vwCl (qs_W h c g) H → va_D A (qs_W h c g) → va_S A s.heap H locs → lv_has ls 4 [(0, .ref (h 6)), (1, .int (x1)), (2, .int (x2)), (3, .int (x3))] → k4 g x1 x2 x3 = some (r0, u0) → W p l e (headSpec (qs_ws y_L_difference b_L_difference 4 (some .int)) ({ frames := 2, cells := 0, slots := 0, locals := 45 } : Room)).room s m ([.ref (h 6), .int a1] : List Value).toArray below meth cd H locs 0 0 (MQ below (va_Qi (fun (r : Int32) (u : Sg) => r = r0 ∧ u = u0) (qs_at dC dI h c A) A) ([.ref (h 6), .int a1] : List Value).toArray s 0 0 A) (F0 m 4 ls [])) → ∀ (g : Sg) (x1 : Int32) (x2 : Int32) (x3 : Int32) (H : Heap) (locs : List Loc) (ls : Array Slot), va_P (dC, dI) vwCl (qs_W h c g) H → va_D A (qs_W h c g) → va_S A s.heap H locs → lv_has ls 4 [(0, .ref (h 6)), (1, .int (x1)), (2, .int (x2)), (3, .int (x3))] → f_L_difference_37 k4  g x1 x2 x3 = some (r0, u0) → W p l e (headSpec (qs_ws y_L_difference b_L_difference 4 (some .int)) ({ frames := 2, cells := 0, slots := 0, locals := 45 } : Room)).room s m ([.ref (h 6), .int a1] : List Value).toArray below meth cd H locs 0 0 (MQ below (va_Qi (fun (r : Int32) (u : Sg) => r = r0 ∧ u = u0) (qs_at dC dI h c A) A) ([.ref (h 6), .int a1] : List Value).toArray s 0 0 A) (F0 m 37 ls []) := by
    intro k4 hk4
    intro g x1 x2 x3 H locs ls hP hD hS hl hF
    unfold f_L_difference_37 at hF
    refine lv_iinc (v := x3 + 1) (lv' := [(3, .int (x3 + 1)), (0, .ref (h 6)), (1, .int (x1)), (2, .int (x2))]) hx hb d_L_difference_37 hl (k := 3) rfl (by rfl) (by decide) rfl (fun ls hl => ?_)
    refine lv_goto (tgt := 4) hx hb d_L_difference_40 (by decide) ?_
    exact hk4 g (x1) (x2) (x3 + 1) H locs ls hP hD hS (lv_sub hl [1, 2, 3, 0] rfl) hF
  have kb_4 : ∀ n : Nat, ∀ (g : Sg) (x1 : Int32) (x2 : Int32) (x3 : Int32) (H : Heap) (locs : List Loc) (ls : Array Slot), va_P (dC, dI) vwCl (qs_W h c g) H → va_D A (qs_W h c g) → va_S A s.heap H locs → lv_has ls 4 [(0, .ref (h 6)), (1, .int (x1)), (2, .int (x2)), (3, .int (x3))] → f_L_difference_4 n g x1 x2 x3 = some (r0, u0) → W p l e (headSpec (qs_ws y_L_difference b_L_difference 4 (some .int)) ({ frames := 2, cells := 0, slots := 0, locals := 45 } : Room)).room s m ([.ref (h 6), .int a1] : List Value).toArray below meth cd H locs 0 0 (MQ below (va_Qi (fun (r : Int32) (u : Sg) => r = r0 ∧ u = u0) (qs_at dC dI h c A) A) ([.ref (h 6), .int a1] : List Value).toArray s 0 0 A) (F0 m 4 ls []) := by
    intro n
    induction n with
    | zero =>
      intro g x1 x2 x3 H locs ls hP hD hS hl hF
      exact nomatch (show (none : Option (Int32 × Sg)) = some _ from hF)
    | succ n ih =>
      intro g x1 x2 x3 H locs ls hP hD hS hl hF
      rw [f_L_difference_4] at hF
      refine lv_iload_n hx hb d_L_difference_4 rfl (lv_at hl 3 rfl) ?_
      refine lv_aload_n hx hb d_L_difference_5 rfl (lv_at hl 0 rfl) ?_
      refine va_get (D := (dC, dI)) (ci := 5) (v := .ref (h 16)) (C := R_L) (T := T_L) (N := 2) hx hb hg in_L hown hK hP 6 rfl rfl 1 (by decide) (hg _ t_150) (fun _ h9 => h9) rfl d_L_difference_6 ?_
      refine va_alen (v := 192) hx hb hK hP 16 9 rfl rfl (show Int32.ofNat 192 = 192 by decide) d_L_difference_9 ?_
      refine lv_icmp_ge (tgt := 43) hx hb d_L_difference_10 (by decide) (fun c1 => ?_) (fun c1 => ?_)
      · have hF := qs_pos c1 hF
        refine lv_bipush (v := (-2)) hx hb d_L_difference_43 (by decide) ?_
        obtain ⟨h8, h9⟩ := qs_ret hF
        exact W.iret (v := (-2)) hx hb hr (fun t ht hW => ⟨⟨(-2), g, rfl, ⟨h8, h9⟩, by rw [ht]; exact hP, va_K.moved hW.alike hK, hD⟩, hS.F ht⟩) hS.2.2 d_L_difference_45
      · have hF := qs_neg c1 hF
        refine lv_aload_n hx hb d_L_difference_13 rfl (lv_at hl 0 rfl) ?_
        refine lv_iload_n hx hb d_L_difference_14 rfl (lv_at hl 3 rfl) ?_
        obtain ⟨r2, u3, hX, hF⟩ := qs_bn_some hF
        refine qs_ci (Wd := qs_W h c) (isC := [0, 1, 2, 3, 4, 5, 6, 7, 8, 9, 10, 11, 12, 13, 14, 15, 16]) (va_runV (own := "QuakeServer$LastMessage") (C := "QuakeServer$LastMessage") (As := [.int (x3)]) (rest := []) ⟨hx, hb, hml, hown, hg⟩ (c_L_now l dC dI h c H.size g (x3) r2 u3 hX) (cwV 1 hg (qs_gV t_183 t_185 tp_0 t_7 t_186) rfl rfl rfl (by decide +kernel) ⟨Nat.le_of_ble_eq_true rfl, Nat.le_of_ble_eq_true rfl⟩) ⟨qs_blind, va_recv hK hP (ci := 5) (q0 := 6) rfl rfl, fun U hU hW => ⟨rfl, by rw [hU], by rw [hU]; exact hP, va_K.moved hW.alike hK, hD.weaken (fun _ _ _ _ => trivial), hNs.warm hW⟩⟩ rfl rfl hl.1 rfl (lv_room (Nat.le_of_ble_eq_true rfl)) d_L_difference_15 ⟨Nat.le_of_ble_eq_true rfl, Nat.le_of_ble_eq_true rfl⟩) rfl hP hD hS hA (fun H locs hP hD hS => ?_)
        refine lv_aload_n hx hb d_L_difference_18 rfl (lv_at hl 0 rfl) ?_
        refine va_get (D := (dC, dI)) (ci := 5) (v := .ref (h 16)) (C := R_L) (T := T_L) (N := 2) hx hb hg in_L hown hK hP 6 rfl rfl 1 (by decide) (hg _ t_150) (fun _ h9 => h9) rfl d_L_difference_19 ?_
        refine lv_iload_n hx hb d_L_difference_22 rfl (lv_at hl 3 rfl) ?_
        obtain ⟨c4, hF⟩ := qs_in_some hF
        refine va_iald hx hb hK hP 16 9 rfl rfl c4 d_L_difference_23 ?_
        refine lv_icmp_eq (tgt := 37) hx hb d_L_difference_24 (by decide) (fun c5 => ?_) (fun c5 => ?_)
        · have hF := qs_pos c5 hF
          exact kb_37 _ ih u3 (x1) (x2) (x3) H locs ls hP hD hS (lv_sub hl [0, 1, 2, 3] rfl) hF
        · have hF := qs_neg c5 hF
          refine lv_iload_n hx hb d_L_difference_27 rfl (lv_at hl 2 rfl) ?_
          refine lv_iload_n hx hb d_L_difference_28 rfl (lv_at hl 1 rfl) ?_
          refine lv_icmp_ne (tgt := 34) hx hb d_L_difference_29 (by decide) (fun c6 => ?_) (fun c6 => ?_)
          · have hF := qs_neg c6 hF
            refine lv_iinc (v := x2 + 1) (lv' := [(2, .int (x2 + 1)), (0, .ref (h 6)), (1, .int (x1)), (3, .int (x3))]) hx hb d_L_difference_34 hl (k := 2) rfl (by rfl) (by decide) rfl (fun ls hl => ?_)
            exact kb_37 _ ih u3 (x1) (x2 + 1) (x3) H locs ls hP hD hS (lv_sub hl [1, 2, 0, 3] rfl) hF
          · have hF := qs_pos c6 hF
            refine lv_iload_n hx hb d_L_difference_32 rfl (lv_at hl 3 rfl) ?_
            obtain ⟨h8, h9⟩ := qs_ret hF
            exact W.iret (v := x3) hx hb hr (fun t ht hW => ⟨⟨x3, u3, rfl, ⟨h8, h9⟩, by rw [ht]; exact hP, va_K.moved hW.alike hK, hD⟩, hS.F ht⟩) hS.2.2 d_L_difference_33
  have hl := lv_entry ([.ref (h 6), .int a1] : List Value) (n := 4) (Nat.le_of_ble_eq_true rfl)
  rw [lg_entry_eq]
  generalize (lg_sl ([.ref (h 6), .int a1] : List Value) ++ List.replicate (4 - (lg_sl ([.ref (h 6), .int a1] : List Value)).length) Slot.unset).toArray = ls at hl ⊢
  have hl : lv_has ls 4 [(0, .ref (h 6)), (1, .int (a1))] := hl
  unfold f_L_difference at hF
  obtain ⟨H, hHe⟩ : ∃ H, H = s.heap := ⟨_, rfl⟩
  obtain ⟨locs, hLe⟩ : ∃ L : List Loc, L = [] := ⟨_, rfl⟩
  rw [← hHe] at hP ⊢
  rw [← hLe]
  have hS : va_S A s.heap H locs := by rw [hHe, hLe]; exact hS
  refine lv_iconst (v := 0) hx hb d_L_difference_0 (by decide) ?_
  refine lv_istore_n (lv' := [(2, .int (0)), (0, .ref (h 6)), (1, .int (a1))]) hx hb d_L_difference_1 rfl hl (by decide) rfl (fun ls hl => ?_)
  refine lv_iconst (v := 0) hx hb d_L_difference_2 (by decide) ?_
  refine lv_istore_n (lv' := [(3, .int (0)), (2, .int (0)), (0, .ref (h 6)), (1, .int (a1))]) hx hb d_L_difference_3 rfl hl (by decide) rfl (fun ls hl => ?_)
  exact kb_4 200 g (a1) (0) (0) H locs ls hP hD hS (lv_sub hl [2, 3, 1, 0] rfl) hF

theorem d_L_tellAll_0 : decode b_L_tellAll 0 = .ok (.iconst 0, 1) := by decide +kernel
theorem d_L_tellAll_1 : decode b_L_tellAll 1 = .ok (.istore_n 1, 1) := by decide +kernel
theorem d_L_tellAll_2 : decode b_L_tellAll 2 = .ok (.iload_n 1, 1) := by decide +kernel
theorem d_L_tellAll_3 : decode b_L_tellAll 3 = .ok (.aload_n 0, 1) := by decide +kernel
theorem d_L_tellAll_4 : decode b_L_tellAll 4 = .ok (.getfield 9, 3) := by decide +kernel
theorem d_L_tellAll_7 : decode b_L_tellAll 7 = .ok (.arraylength, 1) := by decide +kernel
theorem d_L_tellAll_8 : decode b_L_tellAll 8 = .ok (.if_icmp .ge 20, 3) := by decide +kernel
theorem d_L_tellAll_11 : decode b_L_tellAll 11 = .ok (.aload_n 0, 1) := by decide +kernel
theorem d_L_tellAll_12 : decode b_L_tellAll 12 = .ok (.getfield 9, 3) := by decide +kernel
theorem d_L_tellAll_15 : decode b_L_tellAll 15 = .ok (.iload_n 1, 1) := by decide +kernel
theorem d_L_tellAll_16 : decode b_L_tellAll 16 = .ok (.aload_n 0, 1) := by decide +kernel
theorem d_L_tellAll_17 : decode b_L_tellAll 17 = .ok (.iload_n 1, 1) := by decide +kernel
theorem d_L_tellAll_18 : decode b_L_tellAll 18 = .ok (.invokevirtual 29, 3) := by decide +kernel
theorem d_L_tellAll_21 : decode b_L_tellAll 21 = .ok (.iastore, 1) := by decide +kernel
theorem d_L_tellAll_22 : decode b_L_tellAll 22 = .ok (.iinc 1 1, 3) := by decide +kernel
theorem d_L_tellAll_25 : decode b_L_tellAll 25 = .ok (.goto (-23), 3) := by decide +kernel
theorem d_L_tellAll_28 : decode b_L_tellAll 28 = .ok (.return_, 1) := by decide +kernel
def f_L_tellAll_2  : Nat → Sg → Int32 → Option (Unit × Sg)
  | 0, _, _ => none
  | n + 1, g, x1 => (if 192 ≤ x1 then (some ((), g)) else (qs_bn (f_L_now g (x1)) fun r2 u3 => (qs_in (x1) 192 (qs_st (qs_a u3 16 x1.toNatClampNeg (r2)) fun u5 => (f_L_tellAll_2 n u5 (x1 + 1))))))
def f_L_tellAll (g : Sg)  : Option (Unit × Sg) := (f_L_tellAll_2 200 g (0))
set_option maxHeartbeats 4000000 in
set_option maxRecDepth 100000 in
theorem c_L_tellAll (l : Launch) (dC : Nat → ClassId) (dI : Nat → Nat → Nat) (h : Nat → Nat) (c : Nat → ClassId) (sz : Nat) (g : Sg)  (u0 : Sg) (hF : f_L_tellAll g  = some ((), u0)) : Met l y_L_tellAll (qs_ws y_L_tellAll b_L_tellAll 2 none) ({ frames := 2, cells := 0, slots := 0, locals := 45 } : Room) (va_Pc ([.ref (h 6)] : List Value) (fun U => U.heap.size = sz ∧ va_P (dC, dI) vwCl (qs_W h c g) U.heap ∧ va_K (dC, dI) vwCl (qs_T c) U ∧ va_D (fun _ => True) (qs_W h c g) ∧ qs_N U)) (va_Qv (fun (u : Sg) => u = u0) (qs_at dC dI h c (va_A (qs_W h c g) sz)) (va_A (qs_W h c g) sz)) 0 0 (va_A (qs_W h c g) sz) := by
  refine Met.ofW (cc := b_L_tellAll) (maxL := 2) (ret := none) (by decide +kernel) rfl ?_
  intro p e s m args below meth cd s₁ B hml hv
  obtain ⟨rfl, hsz, hP, hK, hD0, hNs⟩ := hv
  have hx := B.exec
  have hb := B.bytes
  have hr := B.returns
  have hts := atoms_spec (ws := (qs_ws y_L_tellAll b_L_tellAll 2 none)) B.pre
  have hg : ∀ w ∈ qs_gt, w.before _ s = true := fun w h => hts w (List.mem_cons_of_mem _ h)
  have hown : s.vm.findClass R_L = some m.cls := findClass_of_methodNamed B.named
  have hlocks := B.notSynchronized
  subst hsz
  have hD := hD0.self (sz := s.heap.size)
  generalize hAe : va_A (qs_W h c g) s.heap.size = A at hD ⊢
  have hA : ∀ q : Nat, s.heap.size ≤ q → A q := fun q h => by rw [← hAe]; exact Or.inr h
  have hS : va_S A s.heap s.heap [] := va_S.rf
  have kb_2 : ∀ n : Nat, ∀ (g : Sg) (x1 : Int32) (H : Heap) (locs : List Loc) (ls : Array Slot), va_P (dC, dI) vwCl (qs_W h c g) H → va_D A (qs_W h c g) → va_S A s.heap H locs → lv_has ls 2 [(0, .ref (h 6)), (1, .int (x1))] → f_L_tellAll_2 n g x1 = some ((), u0) → W p l e (headSpec (qs_ws y_L_tellAll b_L_tellAll 2 none) ({ frames := 2, cells := 0, slots := 0, locals := 45 } : Room)).room s m ([.ref (h 6)] : List Value).toArray below meth cd H locs 0 0 (MQ below (va_Qv (fun (u : Sg) => u = u0) (qs_at dC dI h c A) A) ([.ref (h 6)] : List Value).toArray s 0 0 A) (F0 m 2 ls []) := by
    intro n
    induction n with
    | zero =>
      intro g x1 H locs ls hP hD hS hl hF
      exact nomatch (show (none : Option (Unit × Sg)) = some _ from hF)
    | succ n ih =>
      intro g x1 H locs ls hP hD hS hl hF
      rw [f_L_tellAll_2] at hF
      refine lv_iload_n hx hb d_L_tellAll_2 rfl (lv_at hl 1 rfl) ?_
      refine lv_aload_n hx hb d_L_tellAll_3 rfl (lv_at hl 0 rfl) ?_
      refine va_get (D := (dC, dI)) (ci := 5) (v := .ref (h 16)) (C := R_L) (T := T_L) (N := 2) hx hb hg in_L hown hK hP 6 rfl rfl 1 (by decide) (hg _ t_150) (fun _ h9 => h9) rfl d_L_tellAll_4 ?_
      refine va_alen (v := 192) hx hb hK hP 16 9 rfl rfl (show Int32.ofNat 192 = 192 by decide) d_L_tellAll_7 ?_
      refine lv_icmp_ge (tgt := 28) hx hb d_L_tellAll_8 (by decide) (fun c1 => ?_) (fun c1 => ?_)
      · have hF := qs_pos c1 hF
        obtain ⟨h8, h9⟩ := qs_ret hF
        exact W.vret hx hb hr (fun t ht hW => ⟨⟨g, rfl, h9, by rw [ht]; exact hP, va_K.moved hW.alike hK, hD⟩, hS.F ht⟩) hS.2.2 d_L_tellAll_28
      · have hF := qs_neg c1 hF
        refine lv_aload_n hx hb d_L_tellAll_11 rfl (lv_at hl 0 rfl) ?_
        refine va_get (D := (dC, dI)) (ci := 5) (v := .ref (h 16)) (C := R_L) (T := T_L) (N := 2) hx hb hg in_L hown hK hP 6 rfl rfl 1 (by decide) (hg _ t_150) (fun _ h9 => h9) rfl d_L_tellAll_12 ?_
        refine lv_iload_n hx hb d_L_tellAll_15 rfl (lv_at hl 1 rfl) ?_
        refine lv_aload_n hx hb d_L_tellAll_16 rfl (lv_at hl 0 rfl) ?_
        refine lv_iload_n hx hb d_L_tellAll_17 rfl (lv_at hl 1 rfl) ?_
        obtain ⟨r2, u3, hX, hF⟩ := qs_bn_some hF
        refine qs_ci (Wd := qs_W h c) (isC := [0, 1, 2, 3, 4, 5, 6, 7, 8, 9, 10, 11, 12, 13, 14, 15, 16]) (va_runV (own := "QuakeServer$LastMessage") (C := "QuakeServer$LastMessage") (As := [.int (x1)]) (rest := [.int (x1), .ref (h 16)]) ⟨hx, hb, hml, hown, hg⟩ (c_L_now l dC dI h c H.size g (x1) r2 u3 hX) (cwV 1 hg (qs_gV t_183 t_185 tp_0 t_7 t_186) rfl rfl rfl (by decide +kernel) ⟨Nat.le_of_ble_eq_true rfl, Nat.le_of_ble_eq_true rfl⟩) ⟨qs_blind, va_recv hK hP (ci := 5) (q0 := 6) rfl rfl, fun U hU hW => ⟨rfl, by rw [hU], by rw [hU]; exact hP, va_K.moved hW.alike hK, hD.weaken (fun _ _ _ _ => trivial), hNs.warm hW⟩⟩ rfl rfl hl.1 rfl (lv_room (Nat.le_of_ble_eq_true rfl)) d_L_tellAll_18 ⟨Nat.le_of_ble_eq_true rfl, Nat.le_of_ble_eq_true rfl⟩) rfl hP hD hS hA (fun H locs hP hD hS => ?_)
        obtain ⟨c4, hF⟩ := qs_in_some hF
        refine va_iast hx hb hK hP hD hS 16 9 rfl rfl c4 d_L_tellAll_21 (fun H locs hP hD hS => ?_)
        obtain ⟨u5, hu5, hF⟩ := qs_st_some hF
        have hP : va_P (dC, dI) vwCl (qs_W h c u5) H := by rw [hu5]; exact hP
        have hD : va_D A (qs_W h c u5) := by rw [hu5]; exact hD
        clear hu5
        refine lv_iinc (v := x1 + 1) (lv' := [(1, .int (x1 + 1)), (0, .ref (h 6))]) hx hb d_L_tellAll_22 hl (k := 1) rfl (by rfl) (by decide) rfl (fun ls hl => ?_)
        refine lv_goto (tgt := 2) hx hb d_L_tellAll_25 (by decide) ?_
        exact ih u5 (x1 + 1) H locs ls hP hD hS (lv_sub hl [1, 0] rfl) hF
  have hl := lv_entry ([.ref (h 6)] : List Value) (n := 2) (Nat.le_of_ble_eq_true rfl)
  rw [lg_entry_eq]
  generalize (lg_sl ([.ref (h 6)] : List Value) ++ List.replicate (2 - (lg_sl ([.ref (h 6)] : List Value)).length) Slot.unset).toArray = ls at hl ⊢
  have hl : lv_has ls 2 [(0, .ref (h 6))] := hl
  unfold f_L_tellAll at hF
  obtain ⟨H, hHe⟩ : ∃ H, H = s.heap := ⟨_, rfl⟩
  obtain ⟨locs, hLe⟩ : ∃ L : List Loc, L = [] := ⟨_, rfl⟩
  rw [← hHe] at hP ⊢
  rw [← hLe]
  have hS : va_S A s.heap H locs := by rw [hHe, hLe]; exact hS
  refine lv_iconst (v := 0) hx hb d_L_tellAll_0 (by decide) ?_
  refine lv_istore_n (lv' := [(1, .int (0)), (0, .ref (h 6))]) hx hb d_L_tellAll_1 rfl hl (by decide) rfl (fun ls hl => ?_)
  exact kb_2 200 g (0) H locs ls hP hD hS (lv_sub hl [1, 0] rfl) hF

theorem d_Q_changes_0 : decode b_Q_changes 0 = .ok (.aload_n 0, 1) := by decide +kernel
theorem d_Q_changes_1 : decode b_Q_changes 1 = .ok (.getfield 53, 3) := by decide +kernel
theorem d_Q_changes_4 : decode b_Q_changes 4 = .ok (.invokevirtual 175, 3) := by decide +kernel
theorem d_Q_changes_7 : decode b_Q_changes 7 = .ok (.ireturn, 1) := by decide +kernel
def f_Q_changes (g : Sg)  : Option (Int32 × Sg) := (qs_bn (f_L_differences g ) fun r1 u2 => (some (r1, u2)))
set_option maxHeartbeats 4000000 in
set_option maxRecDepth 100000 in
theorem c_Q_changes (l : Launch) (dC : Nat → ClassId) (dI : Nat → Nat → Nat) (h : Nat → Nat) (c : Nat → ClassId) (sz : Nat) (g : Sg)  (r0 : Int32) (u0 : Sg) (hF : f_Q_changes g  = some (r0, u0)) : Met l y_Q_changes (qs_ws y_Q_changes b_Q_changes 1 (some .int)) ({ frames := 3, cells := 0, slots := 0, locals := 67 } : Room) (va_Pc ([.ref (h 0)] : List Value) (fun U => U.heap.size = sz ∧ va_P (dC, dI) vwCl (qs_W h c g) U.heap ∧ va_K (dC, dI) vwCl (qs_T c) U ∧ va_D (fun _ => True) (qs_W h c g) ∧ qs_N U)) (va_Qi (fun (r : Int32) (u : Sg) => r = r0 ∧ u = u0) (qs_at dC dI h c (va_A (qs_W h c g) sz)) (va_A (qs_W h c g) sz)) 0 0 (va_A (qs_W h c g) sz) := by
  refine Met.ofW (cc := b_Q_changes) (maxL := 1) (ret := (some .int)) (by decide +kernel) rfl ?_
  intro p e s m args below meth cd s₁ B hml hv
  obtain ⟨rfl, hsz, hP, hK, hD0, hNs⟩ := hv
  have hx := B.exec
  have hb := B.bytes
  have hr := B.returns
  have hts := atoms_spec (ws := (qs_ws y_Q_changes b_Q_changes 1 (some .int))) B.pre
  have hg : ∀ w ∈ qs_gt, w.before _ s = true := fun w h => hts w (List.mem_cons_of_mem _ h)
  have hown : s.vm.findClass R_Q = some m.cls := findClass_of_methodNamed B.named
  have hlocks := B.notSynchronized
  subst hsz
  have hD := hD0.self (sz := s.heap.size)
  generalize hAe : va_A (qs_W h c g) s.heap.size = A at hD ⊢
  have hA : ∀ q : Nat, s.heap.size ≤ q → A q := fun q h => by rw [← hAe]; exact Or.inr h
  have hS : va_S A s.heap s.heap [] := va_S.rf
  have hl := lv_entry ([.ref (h 0)] : List Value) (n := 1) (Nat.le_of_ble_eq_true rfl)
  rw [lg_entry_eq]
  generalize (lg_sl ([.ref (h 0)] : List Value) ++ List.replicate (1 - (lg_sl ([.ref (h 0)] : List Value)).length) Slot.unset).toArray = ls at hl ⊢
  have hl : lv_has ls 1 [(0, .ref (h 0))] := hl
  unfold f_Q_changes at hF
  obtain ⟨H, hHe⟩ : ∃ H, H = s.heap := ⟨_, rfl⟩
  obtain ⟨locs, hLe⟩ : ∃ L : List Loc, L = [] := ⟨_, rfl⟩
  rw [← hHe] at hP ⊢
  rw [← hLe]
  have hS : va_S A s.heap H locs := by rw [hHe, hLe]; exact hS
  refine lv_aload_n hx hb d_Q_changes_0 rfl (lv_at hl 0 rfl) ?_
  refine va_get (D := (dC, dI)) (ci := 6) (v := .ref (h 6)) (C := R_Q) (T := T_Q) (N := 6) hx hb hg in_Q hown hK hP 0 rfl rfl 5 (by decide) (hg _ t_161) (fun _ h9 => h9) rfl d_Q_changes_1 ?_
  obtain ⟨r1, u2, hX, hF⟩ := qs_bn_some hF
  refine qs_ci (Wd := qs_W h c) (isC := [0, 1, 2, 3, 4, 5, 6, 7, 8, 9, 10, 11, 12, 13, 14, 15, 16]) (va_runV (own := "QuakeServer") (C := "QuakeServer$LastMessage") (As := []) (rest := []) ⟨hx, hb, hml, hown, hg⟩ (c_L_differences l dC dI h c H.size g  r1 u2 hX) (cwV 0 hg (qs_gV t_179 t_180 t_181 t_7 t_182) rfl rfl rfl (by decide +kernel) ⟨Nat.le_of_ble_eq_true rfl, Nat.le_of_ble_eq_true rfl⟩) ⟨qs_blind, va_recv hK hP (ci := 5) (q0 := 6) rfl rfl, fun U hU hW => ⟨rfl, by rw [hU], by rw [hU]; exact hP, va_K.moved hW.alike hK, hD.weaken (fun _ _ _ _ => trivial), hNs.warm hW⟩⟩ rfl rfl hl.1 rfl (lv_room (Nat.le_of_ble_eq_true rfl)) d_Q_changes_4 ⟨Nat.le_of_ble_eq_true rfl, Nat.le_of_ble_eq_true rfl⟩) rfl hP hD hS hA (fun H locs hP hD hS => ?_)
  obtain ⟨h8, h9⟩ := qs_ret hF
  exact W.iret (v := r1) hx hb hr (fun t ht hW => ⟨⟨r1, u2, rfl, ⟨h8, h9⟩, by rw [ht]; exact hP, va_K.moved hW.alike hK, hD⟩, hS.F ht⟩) hS.2.2 d_Q_changes_7

theorem d_Q_message_0 : decode b_Q_message 0 = .ok (.aload_n 0, 1) := by decide +kernel
theorem d_Q_message_1 : decode b_Q_message 1 = .ok (.getfield 53, 3) := by decide +kernel
theorem d_Q_message_4 : decode b_Q_message 4 = .ok (.invokevirtual 175, 3) := by decide +kernel
theorem d_Q_message_7 : decode b_Q_message 7 = .ok (.istore_n 1, 1) := by decide +kernel
theorem d_Q_message_8 : decode b_Q_message 8 = .ok (.aload_n 0, 1) := by decide +kernel
theorem d_Q_message_9 : decode b_Q_message 9 = .ok (.getfield 53, 3) := by decide +kernel
theorem d_Q_message_12 : decode b_Q_message 12 = .ok (.invokevirtual 183, 3) := by decide +kernel
theorem d_Q_message_15 : decode b_Q_message 15 = .ok (.iload_n 1, 1) := by decide +kernel
theorem d_Q_message_16 : decode b_Q_message 16 = .ok (.ireturn, 1) := by decide +kernel
def f_Q_message (g : Sg)  : Option (Int32 × Sg) := (qs_bn (f_L_differences g ) fun r1 u2 => (qs_bn (f_L_tellAll u2 ) fun _ u4 => (some (r1, u4))))
set_option maxHeartbeats 4000000 in
set_option maxRecDepth 100000 in
theorem c_Q_message (l : Launch) (dC : Nat → ClassId) (dI : Nat → Nat → Nat) (h : Nat → Nat) (c : Nat → ClassId) (sz : Nat) (g : Sg)  (r0 : Int32) (u0 : Sg) (hF : f_Q_message g  = some (r0, u0)) : Met l y_Q_message (qs_ws y_Q_message b_Q_message 2 (some .int)) ({ frames := 3, cells := 0, slots := 0, locals := 67 } : Room) (va_Pc ([.ref (h 0)] : List Value) (fun U => U.heap.size = sz ∧ va_P (dC, dI) vwCl (qs_W h c g) U.heap ∧ va_K (dC, dI) vwCl (qs_T c) U ∧ va_D (fun _ => True) (qs_W h c g) ∧ qs_N U)) (va_Qi (fun (r : Int32) (u : Sg) => r = r0 ∧ u = u0) (qs_at dC dI h c (va_A (qs_W h c g) sz)) (va_A (qs_W h c g) sz)) 0 0 (va_A (qs_W h c g) sz) := by
  refine Met.ofW (cc := b_Q_message) (maxL := 2) (ret := (some .int)) (by decide +kernel) rfl ?_
  intro p e s m args below meth cd s₁ B hml hv
  obtain ⟨rfl, hsz, hP, hK, hD0, hNs⟩ := hv
  have hx := B.exec
  have hb := B.bytes
  have hr := B.returns
  have hts := atoms_spec (ws := (qs_ws y_Q_message b_Q_message 2 (some .int))) B.pre
  have hg : ∀ w ∈ qs_gt, w.before _ s = true := fun w h => hts w (List.mem_cons_of_mem _ h)
  have hown : s.vm.findClass R_Q = some m.cls := findClass_of_methodNamed B.named
  have hlocks := B.notSynchronized
  subst hsz
  have hD := hD0.self (sz := s.heap.size)
  generalize hAe : va_A (qs_W h c g) s.heap.size = A at hD ⊢
  have hA : ∀ q : Nat, s.heap.size ≤ q → A q := fun q h => by rw [← hAe]; exact Or.inr h
  have hS : va_S A s.heap s.heap [] := va_S.rf
  have hl := lv_entry ([.ref (h 0)] : List Value) (n := 2) (Nat.le_of_ble_eq_true rfl)
  rw [lg_entry_eq]
  generalize (lg_sl ([.ref (h 0)] : List Value) ++ List.replicate (2 - (lg_sl ([.ref (h 0)] : List Value)).length) Slot.unset).toArray = ls at hl ⊢
  have hl : lv_has ls 2 [(0, .ref (h 0))] := hl
  unfold f_Q_message at hF
  obtain ⟨H, hHe⟩ : ∃ H, H = s.heap := ⟨_, rfl⟩
  obtain ⟨locs, hLe⟩ : ∃ L : List Loc, L = [] := ⟨_, rfl⟩
  rw [← hHe] at hP ⊢
  rw [← hLe]
  have hS : va_S A s.heap H locs := by rw [hHe, hLe]; exact hS
  refine lv_aload_n hx hb d_Q_message_0 rfl (lv_at hl 0 rfl) ?_
  refine va_get (D := (dC, dI)) (ci := 6) (v := .ref (h 6)) (C := R_Q) (T := T_Q) (N := 6) hx hb hg in_Q hown hK hP 0 rfl rfl 5 (by decide) (hg _ t_161) (fun _ h9 => h9) rfl d_Q_message_1 ?_
  obtain ⟨r1, u2, hX, hF⟩ := qs_bn_some hF
  refine qs_ci (Wd := qs_W h c) (isC := [0, 1, 2, 3, 4, 5, 6, 7, 8, 9, 10, 11, 12, 13, 14, 15, 16]) (va_runV (own := "QuakeServer") (C := "QuakeServer$LastMessage") (As := []) (rest := []) ⟨hx, hb, hml, hown, hg⟩ (c_L_differences l dC dI h c H.size g  r1 u2 hX) (cwV 0 hg (qs_gV t_179 t_180 t_181 t_7 t_182) rfl rfl rfl (by decide +kernel) ⟨Nat.le_of_ble_eq_true rfl, Nat.le_of_ble_eq_true rfl⟩) ⟨qs_blind, va_recv hK hP (ci := 5) (q0 := 6) rfl rfl, fun U hU hW => ⟨rfl, by rw [hU], by rw [hU]; exact hP, va_K.moved hW.alike hK, hD.weaken (fun _ _ _ _ => trivial), hNs.warm hW⟩⟩ rfl rfl hl.1 rfl (lv_room (Nat.le_of_ble_eq_true rfl)) d_Q_message_4 ⟨Nat.le_of_ble_eq_true rfl, Nat.le_of_ble_eq_true rfl⟩) rfl hP hD hS hA (fun H locs hP hD hS => ?_)
  refine lv_istore_n (lv' := [(1, .int (r1)), (0, .ref (h 0))]) hx hb d_Q_message_7 rfl hl (by decide) rfl (fun ls hl => ?_)
  refine lv_aload_n hx hb d_Q_message_8 rfl (lv_at hl 1 rfl) ?_
  refine va_get (D := (dC, dI)) (ci := 6) (v := .ref (h 6)) (C := R_Q) (T := T_Q) (N := 6) hx hb hg in_Q hown hK hP 0 rfl rfl 5 (by decide) (hg _ t_161) (fun _ h9 => h9) rfl d_Q_message_9 ?_
  obtain ⟨r3, u4, hX, hF⟩ := qs_bn_some hF
  refine qs_cv (Wd := qs_W h c) (isC := [0, 1, 2, 3, 4, 5, 6, 7, 8, 9, 10, 11, 12, 13, 14, 15, 16]) (va_runV (own := "QuakeServer") (C := "QuakeServer$LastMessage") (As := []) (rest := []) ⟨hx, hb, hml, hown, hg⟩ (c_L_tellAll l dC dI h c H.size u2   u4 hX) (cwV 0 hg (qs_gV t_199 t_200 t_201 t_7 t_202) rfl rfl rfl (by decide +kernel) ⟨Nat.le_of_ble_eq_true rfl, Nat.le_of_ble_eq_true rfl⟩) ⟨qs_blind, va_recv hK hP (ci := 5) (q0 := 6) rfl rfl, fun U hU hW => ⟨rfl, by rw [hU], by rw [hU]; exact hP, va_K.moved hW.alike hK, hD.weaken (fun _ _ _ _ => trivial), hNs.warm hW⟩⟩ rfl rfl hl.1 rfl (lv_room (Nat.le_of_ble_eq_true rfl)) d_Q_message_12 ⟨Nat.le_of_ble_eq_true rfl, Nat.le_of_ble_eq_true rfl⟩) rfl hP hD hS hA (fun H locs hP hD hS => ?_)
  refine lv_iload_n hx hb d_Q_message_15 rfl (lv_at hl 0 rfl) ?_
  obtain ⟨h8, h9⟩ := qs_ret hF
  exact W.iret (v := r1) hx hb hr (fun t ht hW => ⟨⟨r1, u4, rfl, ⟨h8, h9⟩, by rw [ht]; exact hP, va_K.moved hW.alike hK, hD⟩, hS.F ht⟩) hS.2.2 d_Q_message_16
end
section
theorem d_P_isSound_0 : decode b_P_isSound 0 = .ok (.iload_n 0, 1) := by decide +kernel
theorem d_P_isSound_1 : decode b_P_isSound 1 = .ok (.tableswitch 250 0 15 #[79, 108, 108, 108, 108, 108, 174, 141, 141, 198, 222, 229, 243, 236, 174, 243], 79) := by decide +kernel
theorem d_P_isSound_80 : decode b_P_isSound 80 = .ok (.iload_n 2, 1) := by decide +kernel
theorem d_P_isSound_81 : decode b_P_isSound 81 = .ok (.sipush (-16000), 3) := by decide +kernel
theorem d_P_isSound_84 : decode b_P_isSound 84 = .ok (.if_icmp .lt 23, 3) := by decide +kernel
theorem d_P_isSound_87 : decode b_P_isSound 87 = .ok (.iload_n 2, 1) := by decide +kernel
theorem d_P_isSound_88 : decode b_P_isSound 88 = .ok (.sipush 16000, 3) := by decide +kernel
theorem d_P_isSound_91 : decode b_P_isSound 91 = .ok (.if_icmp .gt 16, 3) := by decide +kernel
theorem d_P_isSound_94 : decode b_P_isSound 94 = .ok (.iload_n 3, 1) := by decide +kernel
theorem d_P_isSound_95 : decode b_P_isSound 95 = .ok (.bipush 24, 2) := by decide +kernel
theorem d_P_isSound_97 : decode b_P_isSound 97 = .ok (.invokestatic 18, 3) := by decide +kernel
theorem d_P_isSound_100 : decode b_P_isSound 100 = .ok (.ifCond .eq 7, 3) := by decide +kernel
theorem d_P_isSound_103 : decode b_P_isSound 103 = .ok (.iconst 1, 1) := by decide +kernel
theorem d_P_isSound_104 : decode b_P_isSound 104 = .ok (.goto 4, 3) := by decide +kernel
theorem d_P_isSound_107 : decode b_P_isSound 107 = .ok (.iconst 0, 1) := by decide +kernel
theorem d_P_isSound_108 : decode b_P_isSound 108 = .ok (.ireturn, 1) := by decide +kernel
theorem d_P_isSound_109 : decode b_P_isSound 109 = .ok (.iload_n 1, 1) := by decide +kernel
theorem d_P_isSound_110 : decode b_P_isSound 110 = .ok (.bipush 24, 2) := by decide +kernel
theorem d_P_isSound_112 : decode b_P_isSound 112 = .ok (.invokestatic 18, 3) := by decide +kernel
theorem d_P_isSound_115 : decode b_P_isSound 115 = .ok (.ifCond .eq 25, 3) := by decide +kernel
theorem d_P_isSound_118 : decode b_P_isSound 118 = .ok (.iload_n 2, 1) := by decide +kernel
theorem d_P_isSound_119 : decode b_P_isSound 119 = .ok (.bipush 24, 2) := by decide +kernel
theorem d_P_isSound_121 : decode b_P_isSound 121 = .ok (.invokestatic 18, 3) := by decide +kernel
theorem d_P_isSound_124 : decode b_P_isSound 124 = .ok (.ifCond .eq 16, 3) := by decide +kernel
theorem d_P_isSound_127 : decode b_P_isSound 127 = .ok (.iload_n 3, 1) := by decide +kernel
theorem d_P_isSound_128 : decode b_P_isSound 128 = .ok (.bipush 24, 2) := by decide +kernel
theorem d_P_isSound_130 : decode b_P_isSound 130 = .ok (.invokestatic 18, 3) := by decide +kernel
theorem d_P_isSound_133 : decode b_P_isSound 133 = .ok (.ifCond .eq 7, 3) := by decide +kernel
theorem d_P_isSound_136 : decode b_P_isSound 136 = .ok (.iconst 1, 1) := by decide +kernel
theorem d_P_isSound_137 : decode b_P_isSound 137 = .ok (.goto 4, 3) := by decide +kernel
theorem d_P_isSound_140 : decode b_P_isSound 140 = .ok (.iconst 0, 1) := by decide +kernel
theorem d_P_isSound_141 : decode b_P_isSound 141 = .ok (.ireturn, 1) := by decide +kernel
theorem d_P_isSound_142 : decode b_P_isSound 142 = .ok (.iload_n 1, 1) := by decide +kernel
theorem d_P_isSound_143 : decode b_P_isSound 143 = .ok (.bipush 24, 2) := by decide +kernel
theorem d_P_isSound_145 : decode b_P_isSound 145 = .ok (.invokestatic 18, 3) := by decide +kernel
theorem d_P_isSound_148 : decode b_P_isSound 148 = .ok (.ifCond .eq 25, 3) := by decide +kernel
theorem d_P_isSound_151 : decode b_P_isSound 151 = .ok (.iload_n 2, 1) := by decide +kernel
theorem d_P_isSound_152 : decode b_P_isSound 152 = .ok (.bipush 16, 2) := by decide +kernel
theorem d_P_isSound_154 : decode b_P_isSound 154 = .ok (.invokestatic 18, 3) := by decide +kernel
theorem d_P_isSound_157 : decode b_P_isSound 157 = .ok (.ifCond .eq 16, 3) := by decide +kernel
theorem d_P_isSound_160 : decode b_P_isSound 160 = .ok (.iload_n 3, 1) := by decide +kernel
theorem d_P_isSound_161 : decode b_P_isSound 161 = .ok (.bipush 24, 2) := by decide +kernel
theorem d_P_isSound_163 : decode b_P_isSound 163 = .ok (.invokestatic 18, 3) := by decide +kernel
theorem d_P_isSound_166 : decode b_P_isSound 166 = .ok (.ifCond .eq 7, 3) := by decide +kernel
theorem d_P_isSound_169 : decode b_P_isSound 169 = .ok (.iconst 1, 1) := by decide +kernel
theorem d_P_isSound_170 : decode b_P_isSound 170 = .ok (.goto 4, 3) := by decide +kernel
theorem d_P_isSound_173 : decode b_P_isSound 173 = .ok (.iconst 0, 1) := by decide +kernel
theorem d_P_isSound_174 : decode b_P_isSound 174 = .ok (.ireturn, 1) := by decide +kernel
theorem d_P_isSound_175 : decode b_P_isSound 175 = .ok (.iload_n 1, 1) := by decide +kernel
theorem d_P_isSound_176 : decode b_P_isSound 176 = .ok (.bipush 24, 2) := by decide +kernel
theorem d_P_isSound_178 : decode b_P_isSound 178 = .ok (.invokestatic 18, 3) := by decide +kernel
theorem d_P_isSound_181 : decode b_P_isSound 181 = .ok (.ifCond .eq 16, 3) := by decide +kernel
theorem d_P_isSound_184 : decode b_P_isSound 184 = .ok (.iload_n 3, 1) := by decide +kernel
theorem d_P_isSound_185 : decode b_P_isSound 185 = .ok (.bipush 24, 2) := by decide +kernel
theorem d_P_isSound_187 : decode b_P_isSound 187 = .ok (.invokestatic 18, 3) := by decide +kernel
theorem d_P_isSound_190 : decode b_P_isSound 190 = .ok (.ifCond .eq 7, 3) := by decide +kernel
theorem d_P_isSound_193 : decode b_P_isSound 193 = .ok (.iconst 1, 1) := by decide +kernel
theorem d_P_isSound_194 : decode b_P_isSound 194 = .ok (.goto 4, 3) := by decide +kernel
theorem d_P_isSound_197 : decode b_P_isSound 197 = .ok (.iconst 0, 1) := by decide +kernel
theorem d_P_isSound_198 : decode b_P_isSound 198 = .ok (.ireturn, 1) := by decide +kernel
theorem d_P_isSound_199 : decode b_P_isSound 199 = .ok (.iload_n 1, 1) := by decide +kernel
theorem d_P_isSound_200 : decode b_P_isSound 200 = .ok (.bipush 24, 2) := by decide +kernel
theorem d_P_isSound_202 : decode b_P_isSound 202 = .ok (.invokestatic 18, 3) := by decide +kernel
theorem d_P_isSound_205 : decode b_P_isSound 205 = .ok (.ifCond .eq 16, 3) := by decide +kernel
theorem d_P_isSound_208 : decode b_P_isSound 208 = .ok (.iload_n 2, 1) := by decide +kernel
theorem d_P_isSound_209 : decode b_P_isSound 209 = .ok (.bipush 14, 2) := by decide +kernel
theorem d_P_isSound_211 : decode b_P_isSound 211 = .ok (.invokestatic 18, 3) := by decide +kernel
theorem d_P_isSound_214 : decode b_P_isSound 214 = .ok (.ifCond .eq 7, 3) := by decide +kernel
theorem d_P_isSound_217 : decode b_P_isSound 217 = .ok (.iconst 1, 1) := by decide +kernel
theorem d_P_isSound_218 : decode b_P_isSound 218 = .ok (.goto 4, 3) := by decide +kernel
theorem d_P_isSound_221 : decode b_P_isSound 221 = .ok (.iconst 0, 1) := by decide +kernel
theorem d_P_isSound_222 : decode b_P_isSound 222 = .ok (.ireturn, 1) := by decide +kernel
theorem d_P_isSound_223 : decode b_P_isSound 223 = .ok (.iload_n 2, 1) := by decide +kernel
theorem d_P_isSound_224 : decode b_P_isSound 224 = .ok (.bipush 14, 2) := by decide +kernel
theorem d_P_isSound_226 : decode b_P_isSound 226 = .ok (.invokestatic 18, 3) := by decide +kernel
theorem d_P_isSound_229 : decode b_P_isSound 229 = .ok (.ireturn, 1) := by decide +kernel
theorem d_P_isSound_230 : decode b_P_isSound 230 = .ok (.iload_n 1, 1) := by decide +kernel
theorem d_P_isSound_231 : decode b_P_isSound 231 = .ok (.bipush 6, 2) := by decide +kernel
theorem d_P_isSound_233 : decode b_P_isSound 233 = .ok (.invokestatic 18, 3) := by decide +kernel
theorem d_P_isSound_236 : decode b_P_isSound 236 = .ok (.ireturn, 1) := by decide +kernel
theorem d_P_isSound_237 : decode b_P_isSound 237 = .ok (.iload_n 1, 1) := by decide +kernel
theorem d_P_isSound_238 : decode b_P_isSound 238 = .ok (.bipush 24, 2) := by decide +kernel
theorem d_P_isSound_240 : decode b_P_isSound 240 = .ok (.invokestatic 18, 3) := by decide +kernel
theorem d_P_isSound_243 : decode b_P_isSound 243 = .ok (.ireturn, 1) := by decide +kernel
theorem d_P_isSound_244 : decode b_P_isSound 244 = .ok (.iload_n 3, 1) := by decide +kernel
theorem d_P_isSound_245 : decode b_P_isSound 245 = .ok (.bipush 24, 2) := by decide +kernel
theorem d_P_isSound_247 : decode b_P_isSound 247 = .ok (.invokestatic 18, 3) := by decide +kernel
theorem d_P_isSound_250 : decode b_P_isSound 250 = .ok (.ireturn, 1) := by decide +kernel
theorem d_P_isSound_251 : decode b_P_isSound 251 = .ok (.iload_n 0, 1) := by decide +kernel
theorem d_P_isSound_252 : decode b_P_isSound 252 = .ok (.bipush 16, 2) := by decide +kernel
theorem d_P_isSound_254 : decode b_P_isSound 254 = .ok (.if_icmp .ne 7, 3) := by decide +kernel
theorem d_P_isSound_257 : decode b_P_isSound 257 = .ok (.iconst 1, 1) := by decide +kernel
theorem d_P_isSound_258 : decode b_P_isSound 258 = .ok (.goto 4, 3) := by decide +kernel
theorem d_P_isSound_261 : decode b_P_isSound 261 = .ok (.iconst 0, 1) := by decide +kernel
theorem d_P_isSound_262 : decode b_P_isSound 262 = .ok (.ireturn, 1) := by decide +kernel
def f_P_isSound (a1 : Int32) (a2 : Int32) (a3 : Int32) (a4 : Int32) : Option Int32 := (if a1 = 0 then (if a3 < (-16000) then (some (0)) else (if 16000 < a3 then (some (0)) else (qs_pb (f_Q_isBelow (a4) (24)) fun r4 => (if r4 = 0 then (some (0)) else (some (1)))))) else (if a1 = 1 then (qs_pb (f_Q_isBelow (a2) (24)) fun r7 => (if r7 = 0 then (some (0)) else (qs_pb (f_Q_isBelow (a3) (24)) fun r9 => (if r9 = 0 then (some (0)) else (qs_pb (f_Q_isBelow (a4) (24)) fun r11 => (if r11 = 0 then (some (0)) else (some (1)))))))) else (if a1 = 2 then (qs_pb (f_Q_isBelow (a2) (24)) fun r14 => (if r14 = 0 then (some (0)) else (qs_pb (f_Q_isBelow (a3) (24)) fun r16 => (if r16 = 0 then (some (0)) else (qs_pb (f_Q_isBelow (a4) (24)) fun r18 => (if r18 = 0 then (some (0)) else (some (1)))))))) else (if a1 = 3 then (qs_pb (f_Q_isBelow (a2) (24)) fun r21 => (if r21 = 0 then (some (0)) else (qs_pb (f_Q_isBelow (a3) (24)) fun r23 => (if r23 = 0 then (some (0)) else (qs_pb (f_Q_isBelow (a4) (24)) fun r25 => (if r25 = 0 then (some (0)) else (some (1)))))))) else (if a1 = 4 then (qs_pb (f_Q_isBelow (a2) (24)) fun r28 => (if r28 = 0 then (some (0)) else (qs_pb (f_Q_isBelow (a3) (24)) fun r30 => (if r30 = 0 then (some (0)) else (qs_pb (f_Q_isBelow (a4) (24)) fun r32 => (if r32 = 0 then (some (0)) else (some (1)))))))) else (if a1 = 5 then (qs_pb (f_Q_isBelow (a2) (24)) fun r35 => (if r35 = 0 then (some (0)) else (qs_pb (f_Q_isBelow (a3) (24)) fun r37 => (if r37 = 0 then (some (0)) else (qs_pb (f_Q_isBelow (a4) (24)) fun r39 => (if r39 = 0 then (some (0)) else (some (1)))))))) else (if a1 = 6 then (qs_pb (f_Q_isBelow (a2) (24)) fun r42 => (if r42 = 0 then (some (0)) else (qs_pb (f_Q_isBelow (a4) (24)) fun r44 => (if r44 = 0 then (some (0)) else (some (1)))))) else (if a1 = 7 then (qs_pb (f_Q_isBelow (a2) (24)) fun r47 => (if r47 = 0 then (some (0)) else (qs_pb (f_Q_isBelow (a3) (16)) fun r49 => (if r49 = 0 then (some (0)) else (qs_pb (f_Q_isBelow (a4) (24)) fun r51 => (if r51 = 0 then (some (0)) else (some (1)))))))) else (if a1 = 8 then (qs_pb (f_Q_isBelow (a2) (24)) fun r54 => (if r54 = 0 then (some (0)) else (qs_pb (f_Q_isBelow (a3) (16)) fun r56 => (if r56 = 0 then (some (0)) else (qs_pb (f_Q_isBelow (a4) (24)) fun r58 => (if r58 = 0 then (some (0)) else (some (1)))))))) else (if a1 = 9 then (qs_pb (f_Q_isBelow (a2) (24)) fun r61 => (if r61 = 0 then (some (0)) else (qs_pb (f_Q_isBelow (a3) (14)) fun r63 => (if r63 = 0 then (some (0)) else (some (1)))))) else (if a1 = 10 then (qs_pb (f_Q_isBelow (a3) (14)) fun r66 => (qs_bo (r66) (some (r66)))) else (if a1 = 11 then (qs_pb (f_Q_isBelow (a2) (6)) fun r69 => (qs_bo (r69) (some (r69)))) else (if a1 = 12 then (qs_pb (f_Q_isBelow (a4) (24)) fun r72 => (qs_bo (r72) (some (r72)))) else (if a1 = 13 then (qs_pb (f_Q_isBelow (a2) (24)) fun r75 => (qs_bo (r75) (some (r75)))) else (if a1 = 14 then (qs_pb (f_Q_isBelow (a2) (24)) fun r78 => (if r78 = 0 then (some (0)) else (qs_pb (f_Q_isBelow (a4) (24)) fun r80 => (if r80 = 0 then (some (0)) else (some (1)))))) else (if a1 = 15 then (qs_pb (f_Q_isBelow (a4) (24)) fun r83 => (qs_bo (r83) (some (r83)))) else (if a1 = 16 then (some (1)) else (some (0)))))))))))))))))))
set_option maxHeartbeats 4000000 in
set_option maxRecDepth 100000 in
theorem c_P_isSound (l : Launch) (sz : Nat) (a1 : Int32) (a2 : Int32) (a3 : Int32) (a4 : Int32) (r0 : Int32) (hF : f_P_isSound a1 a2 a3 a4 = some r0) : Met l y_P_isSound (qs_ws y_P_isSound b_P_isSound 4 (some .boolean)) ({ frames := 1, cells := 0, slots := 0, locals := 21 } : Room) (va_Pc ([.int a1, .int a2, .int a3, .int a4] : List Value) (fun U => U.heap.size = sz ∧ qs_N U)) (va_Qi (fun (r : Int32) (_ : Unit) => r = r0) (fun _ _ => True) (va_A [] sz)) 0 0 (va_A [] sz) := by
  refine Met.ofW (cc := b_P_isSound) (maxL := 4) (ret := (some .boolean)) (by decide +kernel) rfl ?_
  intro p e s m args below meth cd s₁ B hml hv
  obtain ⟨rfl, hsz, hNs⟩ := hv
  have hx := B.exec
  have hb := B.bytes
  have hr := B.returns
  have hts := atoms_spec (ws := (qs_ws y_P_isSound b_P_isSound 4 (some .boolean))) B.pre
  have hg : ∀ w ∈ qs_gt, w.before _ s = true := fun w h => hts w (List.mem_cons_of_mem _ h)
  have hown : s.vm.findClass R_P = some m.cls := findClass_of_methodNamed B.named
  have hlocks := B.notSynchronized
  subst hsz
  have hD : va_D (va_A [] s.heap.size) [] := qs_D0
  have hP : va_P qs_G0 [] [] s.heap := qs_P0
  generalize hAe : va_A ([]) s.heap.size = A at hD ⊢
  have hA : ∀ q : Nat, s.heap.size ≤ q → A q := fun q h => by rw [← hAe]; exact Or.inr h
  have hS : va_S A s.heap s.heap [] := va_S.rf
  have hl := lv_entry ([.int a1, .int a2, .int a3, .int a4] : List Value) (n := 4) (Nat.le_of_ble_eq_true rfl)
  rw [lg_entry_eq]
  generalize (lg_sl ([.int a1, .int a2, .int a3, .int a4] : List Value) ++ List.replicate (4 - (lg_sl ([.int a1, .int a2, .int a3, .int a4] : List Value)).length) Slot.unset).toArray = ls at hl ⊢
  have hl : lv_has ls 4 [(0, .int (a1)), (1, .int (a2)), (2, .int (a3)), (3, .int (a4))] := hl
  unfold f_P_isSound at hF
  obtain ⟨H, hHe⟩ : ∃ H, H = s.heap := ⟨_, rfl⟩
  obtain ⟨locs, hLe⟩ : ∃ L : List Loc, L = [] := ⟨_, rfl⟩
  rw [← hHe] at hP ⊢
  rw [← hLe]
  have hS : va_S A s.heap H locs := by rw [hHe, hLe]; exact hS
  refine lv_iload_n hx hb d_P_isSound_0 rfl (lv_at hl 0 rfl) ?_
  by_cases c1 : a1 = 0
  · have hF := qs_pos c1 hF
    refine lv_tableIn (tgt := 80) hx hb d_P_isSound_1 (by rw [c1]; decide) (by rw [c1]; decide) (by rw [c1]; rfl) (by decide) ?_
    refine lv_iload_n hx hb d_P_isSound_80 rfl (lv_at hl 2 rfl) ?_
    refine lv_sipush (v := (-16000)) hx hb d_P_isSound_81 (by decide) ?_
    refine lv_icmp_lt (tgt := 107) hx hb d_P_isSound_84 (by decide) (fun c2 => ?_) (fun c2 => ?_)
    · have hF := qs_pos c2 hF
      refine lv_iconst (v := 0) hx hb d_P_isSound_107 (by decide) ?_
      have h9 := Option.some.inj hF
      exact W.zret (ty := .boolean) (v := 0) hx hb hr rfl (fun t ht hW => ⟨⟨0, (), rfl, h9, trivial⟩, hS.F ht⟩) hS.2.2 d_P_isSound_108
    · have hF := qs_neg c2 hF
      refine lv_iload_n hx hb d_P_isSound_87 rfl (lv_at hl 2 rfl) ?_
      refine lv_sipush (v := 16000) hx hb d_P_isSound_88 (by decide) ?_
      refine lv_icmp_gt (tgt := 107) hx hb d_P_isSound_91 (by decide) (fun c3 => ?_) (fun c3 => ?_)
      · have hF := qs_pos c3 hF
        refine lv_iconst (v := 0) hx hb d_P_isSound_107 (by decide) ?_
        have h9 := Option.some.inj hF
        exact W.zret (ty := .boolean) (v := 0) hx hb hr rfl (fun t ht hW => ⟨⟨0, (), rfl, h9, trivial⟩, hS.F ht⟩) hS.2.2 d_P_isSound_108
      · have hF := qs_neg c3 hF
        refine lv_iload_n hx hb d_P_isSound_94 rfl (lv_at hl 3 rfl) ?_
        refine lv_bipush (v := 24) hx hb d_P_isSound_95 (by decide) ?_
        obtain ⟨r4, hX, hF⟩ := qs_pb_some hF
        refine qs_psi (va_runSN (own := "QuakeServer$Program") (As := [.int (a4), .int (24)]) (rest := []) ⟨hx, hb, hml, hown, hg⟩ (c_Q_isBelow l H.size (a4) (24) r4 hX) ⟨va_cnB (own := "QuakeServer$Program") (index := 18) (host := "QuakeServer") 2 hg (qs_gc t_313) rfl rfl rfl (nM_3 hNs) (hg _ t_1) (by decide +kernel) ⟨Nat.le_of_ble_eq_true rfl, Nat.le_of_ble_eq_true rfl⟩, hg _ t_312, trivial⟩ ⟨qs_blind0, fun U hU hW => ⟨rfl, by rw [hU], hNs.warm hW⟩⟩ rfl rfl hl.1 rfl (lv_room (Nat.le_of_ble_eq_true rfl)) d_P_isSound_97 ⟨Nat.le_of_ble_eq_true rfl, Nat.le_of_ble_eq_true rfl⟩) hP hD hS hA (fun H locs hP hS => ?_)
        refine lv_if_eq (tgt := 107) hx hb d_P_isSound_100 (by decide) (fun c5 => ?_) (fun c5 => ?_)
        · have hF := qs_pos c5 hF
          refine lv_iconst (v := 0) hx hb d_P_isSound_107 (by decide) ?_
          have h9 := Option.some.inj hF
          exact W.zret (ty := .boolean) (v := 0) hx hb hr rfl (fun t ht hW => ⟨⟨0, (), rfl, h9, trivial⟩, hS.F ht⟩) hS.2.2 d_P_isSound_108
        · have hF := qs_neg c5 hF
          refine lv_iconst (v := 1) hx hb d_P_isSound_103 (by decide) ?_
          refine lv_goto (tgt := 108) hx hb d_P_isSound_104 (by decide) ?_
          have h9 := Option.some.inj hF
          exact W.zret (ty := .boolean) (v := 1) hx hb hr rfl (fun t ht hW => ⟨⟨1, (), rfl, h9, trivial⟩, hS.F ht⟩) hS.2.2 d_P_isSound_108
  have hF := qs_neg c1 hF
  by_cases c6 : a1 = 1
  · have hF := qs_pos c6 hF
    refine lv_tableIn (tgt := 109) hx hb d_P_isSound_1 (by rw [c6]; decide) (by rw [c6]; decide) (by rw [c6]; rfl) (by decide) ?_
    refine lv_iload_n hx hb d_P_isSound_109 rfl (lv_at hl 1 rfl) ?_
    refine lv_bipush (v := 24) hx hb d_P_isSound_110 (by decide) ?_
    obtain ⟨r7, hX, hF⟩ := qs_pb_some hF
    refine qs_psi (va_runSN (own := "QuakeServer$Program") (As := [.int (a2), .int (24)]) (rest := []) ⟨hx, hb, hml, hown, hg⟩ (c_Q_isBelow l H.size (a2) (24) r7 hX) ⟨va_cnB (own := "QuakeServer$Program") (index := 18) (host := "QuakeServer") 2 hg (qs_gc t_313) rfl rfl rfl (nM_3 hNs) (hg _ t_1) (by decide +kernel) ⟨Nat.le_of_ble_eq_true rfl, Nat.le_of_ble_eq_true rfl⟩, hg _ t_312, trivial⟩ ⟨qs_blind0, fun U hU hW => ⟨rfl, by rw [hU], hNs.warm hW⟩⟩ rfl rfl hl.1 rfl (lv_room (Nat.le_of_ble_eq_true rfl)) d_P_isSound_112 ⟨Nat.le_of_ble_eq_true rfl, Nat.le_of_ble_eq_true rfl⟩) hP hD hS hA (fun H locs hP hS => ?_)
    refine lv_if_eq (tgt := 140) hx hb d_P_isSound_115 (by decide) (fun c8 => ?_) (fun c8 => ?_)
    · have hF := qs_pos c8 hF
      refine lv_iconst (v := 0) hx hb d_P_isSound_140 (by decide) ?_
      have h9 := Option.some.inj hF
      exact W.zret (ty := .boolean) (v := 0) hx hb hr rfl (fun t ht hW => ⟨⟨0, (), rfl, h9, trivial⟩, hS.F ht⟩) hS.2.2 d_P_isSound_141
    · have hF := qs_neg c8 hF
      refine lv_iload_n hx hb d_P_isSound_118 rfl (lv_at hl 2 rfl) ?_
      refine lv_bipush (v := 24) hx hb d_P_isSound_119 (by decide) ?_
      obtain ⟨r9, hX, hF⟩ := qs_pb_some hF
      refine qs_psi (va_runSN (own := "QuakeServer$Program") (As := [.int (a3), .int (24)]) (rest := []) ⟨hx, hb, hml, hown, hg⟩ (c_Q_isBelow l H.size (a3) (24) r9 hX) ⟨va_cnB (own := "QuakeServer$Program") (index := 18) (host := "QuakeServer") 2 hg (qs_gc t_313) rfl rfl rfl (nM_3 hNs) (hg _ t_1) (by decide +kernel) ⟨Nat.le_of_ble_eq_true rfl, Nat.le_of_ble_eq_true rfl⟩, hg _ t_312, trivial⟩ ⟨qs_blind0, fun U hU hW => ⟨rfl, by rw [hU], hNs.warm hW⟩⟩ rfl rfl hl.1 rfl (lv_room (Nat.le_of_ble_eq_true rfl)) d_P_isSound_121 ⟨Nat.le_of_ble_eq_true rfl, Nat.le_of_ble_eq_true rfl⟩) hP hD hS hA (fun H locs hP hS => ?_)
      refine lv_if_eq (tgt := 140) hx hb d_P_isSound_124 (by decide) (fun c10 => ?_) (fun c10 => ?_)
      · have hF := qs_pos c10 hF
        refine lv_iconst (v := 0) hx hb d_P_isSound_140 (by decide) ?_
        have h9 := Option.some.inj hF
        exact W.zret (ty := .boolean) (v := 0) hx hb hr rfl (fun t ht hW => ⟨⟨0, (), rfl, h9, trivial⟩, hS.F ht⟩) hS.2.2 d_P_isSound_141
      · have hF := qs_neg c10 hF
        refine lv_iload_n hx hb d_P_isSound_127 rfl (lv_at hl 3 rfl) ?_
        refine lv_bipush (v := 24) hx hb d_P_isSound_128 (by decide) ?_
        obtain ⟨r11, hX, hF⟩ := qs_pb_some hF
        refine qs_psi (va_runSN (own := "QuakeServer$Program") (As := [.int (a4), .int (24)]) (rest := []) ⟨hx, hb, hml, hown, hg⟩ (c_Q_isBelow l H.size (a4) (24) r11 hX) ⟨va_cnB (own := "QuakeServer$Program") (index := 18) (host := "QuakeServer") 2 hg (qs_gc t_313) rfl rfl rfl (nM_3 hNs) (hg _ t_1) (by decide +kernel) ⟨Nat.le_of_ble_eq_true rfl, Nat.le_of_ble_eq_true rfl⟩, hg _ t_312, trivial⟩ ⟨qs_blind0, fun U hU hW => ⟨rfl, by rw [hU], hNs.warm hW⟩⟩ rfl rfl hl.1 rfl (lv_room (Nat.le_of_ble_eq_true rfl)) d_P_isSound_130 ⟨Nat.le_of_ble_eq_true rfl, Nat.le_of_ble_eq_true rfl⟩) hP hD hS hA (fun H locs hP hS => ?_)
        refine lv_if_eq (tgt := 140) hx hb d_P_isSound_133 (by decide) (fun c12 => ?_) (fun c12 => ?_)
        · have hF := qs_pos c12 hF
          refine lv_iconst (v := 0) hx hb d_P_isSound_140 (by decide) ?_
          have h9 := Option.some.inj hF
          exact W.zret (ty := .boolean) (v := 0) hx hb hr rfl (fun t ht hW => ⟨⟨0, (), rfl, h9, trivial⟩, hS.F ht⟩) hS.2.2 d_P_isSound_141
        · have hF := qs_neg c12 hF
          refine lv_iconst (v := 1) hx hb d_P_isSound_136 (by decide) ?_
          refine lv_goto (tgt := 141) hx hb d_P_isSound_137 (by decide) ?_
          have h9 := Option.some.inj hF
          exact W.zret (ty := .boolean) (v := 1) hx hb hr rfl (fun t ht hW => ⟨⟨1, (), rfl, h9, trivial⟩, hS.F ht⟩) hS.2.2 d_P_isSound_141
  have hF := qs_neg c6 hF
  by_cases c13 : a1 = 2
  · have hF := qs_pos c13 hF
    refine lv_tableIn (tgt := 109) hx hb d_P_isSound_1 (by rw [c13]; decide) (by rw [c13]; decide) (by rw [c13]; rfl) (by decide) ?_
    refine lv_iload_n hx hb d_P_isSound_109 rfl (lv_at hl 1 rfl) ?_
    refine lv_bipush (v := 24) hx hb d_P_isSound_110 (by decide) ?_
    obtain ⟨r14, hX, hF⟩ := qs_pb_some hF
    refine qs_psi (va_runSN (own := "QuakeServer$Program") (As := [.int (a2), .int (24)]) (rest := []) ⟨hx, hb, hml, hown, hg⟩ (c_Q_isBelow l H.size (a2) (24) r14 hX) ⟨va_cnB (own := "QuakeServer$Program") (index := 18) (host := "QuakeServer") 2 hg (qs_gc t_313) rfl rfl rfl (nM_3 hNs) (hg _ t_1) (by decide +kernel) ⟨Nat.le_of_ble_eq_true rfl, Nat.le_of_ble_eq_true rfl⟩, hg _ t_312, trivial⟩ ⟨qs_blind0, fun U hU hW => ⟨rfl, by rw [hU], hNs.warm hW⟩⟩ rfl rfl hl.1 rfl (lv_room (Nat.le_of_ble_eq_true rfl)) d_P_isSound_112 ⟨Nat.le_of_ble_eq_true rfl, Nat.le_of_ble_eq_true rfl⟩) hP hD hS hA (fun H locs hP hS => ?_)
    refine lv_if_eq (tgt := 140) hx hb d_P_isSound_115 (by decide) (fun c15 => ?_) (fun c15 => ?_)
    · have hF := qs_pos c15 hF
      refine lv_iconst (v := 0) hx hb d_P_isSound_140 (by decide) ?_
      have h9 := Option.some.inj hF
      exact W.zret (ty := .boolean) (v := 0) hx hb hr rfl (fun t ht hW => ⟨⟨0, (), rfl, h9, trivial⟩, hS.F ht⟩) hS.2.2 d_P_isSound_141
    · have hF := qs_neg c15 hF
      refine lv_iload_n hx hb d_P_isSound_118 rfl (lv_at hl 2 rfl) ?_
      refine lv_bipush (v := 24) hx hb d_P_isSound_119 (by decide) ?_
      obtain ⟨r16, hX, hF⟩ := qs_pb_some hF
      refine qs_psi (va_runSN (own := "QuakeServer$Program") (As := [.int (a3), .int (24)]) (rest := []) ⟨hx, hb, hml, hown, hg⟩ (c_Q_isBelow l H.size (a3) (24) r16 hX) ⟨va_cnB (own := "QuakeServer$Program") (index := 18) (host := "QuakeServer") 2 hg (qs_gc t_313) rfl rfl rfl (nM_3 hNs) (hg _ t_1) (by decide +kernel) ⟨Nat.le_of_ble_eq_true rfl, Nat.le_of_ble_eq_true rfl⟩, hg _ t_312, trivial⟩ ⟨qs_blind0, fun U hU hW => ⟨rfl, by rw [hU], hNs.warm hW⟩⟩ rfl rfl hl.1 rfl (lv_room (Nat.le_of_ble_eq_true rfl)) d_P_isSound_121 ⟨Nat.le_of_ble_eq_true rfl, Nat.le_of_ble_eq_true rfl⟩) hP hD hS hA (fun H locs hP hS => ?_)
      refine lv_if_eq (tgt := 140) hx hb d_P_isSound_124 (by decide) (fun c17 => ?_) (fun c17 => ?_)
      · have hF := qs_pos c17 hF
        refine lv_iconst (v := 0) hx hb d_P_isSound_140 (by decide) ?_
        have h9 := Option.some.inj hF
        exact W.zret (ty := .boolean) (v := 0) hx hb hr rfl (fun t ht hW => ⟨⟨0, (), rfl, h9, trivial⟩, hS.F ht⟩) hS.2.2 d_P_isSound_141
      · have hF := qs_neg c17 hF
        refine lv_iload_n hx hb d_P_isSound_127 rfl (lv_at hl 3 rfl) ?_
        refine lv_bipush (v := 24) hx hb d_P_isSound_128 (by decide) ?_
        obtain ⟨r18, hX, hF⟩ := qs_pb_some hF
        refine qs_psi (va_runSN (own := "QuakeServer$Program") (As := [.int (a4), .int (24)]) (rest := []) ⟨hx, hb, hml, hown, hg⟩ (c_Q_isBelow l H.size (a4) (24) r18 hX) ⟨va_cnB (own := "QuakeServer$Program") (index := 18) (host := "QuakeServer") 2 hg (qs_gc t_313) rfl rfl rfl (nM_3 hNs) (hg _ t_1) (by decide +kernel) ⟨Nat.le_of_ble_eq_true rfl, Nat.le_of_ble_eq_true rfl⟩, hg _ t_312, trivial⟩ ⟨qs_blind0, fun U hU hW => ⟨rfl, by rw [hU], hNs.warm hW⟩⟩ rfl rfl hl.1 rfl (lv_room (Nat.le_of_ble_eq_true rfl)) d_P_isSound_130 ⟨Nat.le_of_ble_eq_true rfl, Nat.le_of_ble_eq_true rfl⟩) hP hD hS hA (fun H locs hP hS => ?_)
        refine lv_if_eq (tgt := 140) hx hb d_P_isSound_133 (by decide) (fun c19 => ?_) (fun c19 => ?_)
        · have hF := qs_pos c19 hF
          refine lv_iconst (v := 0) hx hb d_P_isSound_140 (by decide) ?_
          have h9 := Option.some.inj hF
          exact W.zret (ty := .boolean) (v := 0) hx hb hr rfl (fun t ht hW => ⟨⟨0, (), rfl, h9, trivial⟩, hS.F ht⟩) hS.2.2 d_P_isSound_141
        · have hF := qs_neg c19 hF
          refine lv_iconst (v := 1) hx hb d_P_isSound_136 (by decide) ?_
          refine lv_goto (tgt := 141) hx hb d_P_isSound_137 (by decide) ?_
          have h9 := Option.some.inj hF
          exact W.zret (ty := .boolean) (v := 1) hx hb hr rfl (fun t ht hW => ⟨⟨1, (), rfl, h9, trivial⟩, hS.F ht⟩) hS.2.2 d_P_isSound_141
  have hF := qs_neg c13 hF
  by_cases c20 : a1 = 3
  · have hF := qs_pos c20 hF
    refine lv_tableIn (tgt := 109) hx hb d_P_isSound_1 (by rw [c20]; decide) (by rw [c20]; decide) (by rw [c20]; rfl) (by decide) ?_
    refine lv_iload_n hx hb d_P_isSound_109 rfl (lv_at hl 1 rfl) ?_
    refine lv_bipush (v := 24) hx hb d_P_isSound_110 (by decide) ?_
    obtain ⟨r21, hX, hF⟩ := qs_pb_some hF
    refine qs_psi (va_runSN (own := "QuakeServer$Program") (As := [.int (a2), .int (24)]) (rest := []) ⟨hx, hb, hml, hown, hg⟩ (c_Q_isBelow l H.size (a2) (24) r21 hX) ⟨va_cnB (own := "QuakeServer$Program") (index := 18) (host := "QuakeServer") 2 hg (qs_gc t_313) rfl rfl rfl (nM_3 hNs) (hg _ t_1) (by decide +kernel) ⟨Nat.le_of_ble_eq_true rfl, Nat.le_of_ble_eq_true rfl⟩, hg _ t_312, trivial⟩ ⟨qs_blind0, fun U hU hW => ⟨rfl, by rw [hU], hNs.warm hW⟩⟩ rfl rfl hl.1 rfl (lv_room (Nat.le_of_ble_eq_true rfl)) d_P_isSound_112 ⟨Nat.le_of_ble_eq_true rfl, Nat.le_of_ble_eq_true rfl⟩) hP hD hS hA (fun H locs hP hS => ?_)
    refine lv_if_eq (tgt := 140) hx hb d_P_isSound_115 (by decide) (fun c22 => ?_) (fun c22 => ?_)
    · have hF := qs_pos c22 hF
      refine lv_iconst (v := 0) hx hb d_P_isSound_140 (by decide) ?_
      have h9 := Option.some.inj hF
      exact W.zret (ty := .boolean) (v := 0) hx hb hr rfl (fun t ht hW => ⟨⟨0, (), rfl, h9, trivial⟩, hS.F ht⟩) hS.2.2 d_P_isSound_141
    · have hF := qs_neg c22 hF
      refine lv_iload_n hx hb d_P_isSound_118 rfl (lv_at hl 2 rfl) ?_
      refine lv_bipush (v := 24) hx hb d_P_isSound_119 (by decide) ?_
      obtain ⟨r23, hX, hF⟩ := qs_pb_some hF
      refine qs_psi (va_runSN (own := "QuakeServer$Program") (As := [.int (a3), .int (24)]) (rest := []) ⟨hx, hb, hml, hown, hg⟩ (c_Q_isBelow l H.size (a3) (24) r23 hX) ⟨va_cnB (own := "QuakeServer$Program") (index := 18) (host := "QuakeServer") 2 hg (qs_gc t_313) rfl rfl rfl (nM_3 hNs) (hg _ t_1) (by decide +kernel) ⟨Nat.le_of_ble_eq_true rfl, Nat.le_of_ble_eq_true rfl⟩, hg _ t_312, trivial⟩ ⟨qs_blind0, fun U hU hW => ⟨rfl, by rw [hU], hNs.warm hW⟩⟩ rfl rfl hl.1 rfl (lv_room (Nat.le_of_ble_eq_true rfl)) d_P_isSound_121 ⟨Nat.le_of_ble_eq_true rfl, Nat.le_of_ble_eq_true rfl⟩) hP hD hS hA (fun H locs hP hS => ?_)
      refine lv_if_eq (tgt := 140) hx hb d_P_isSound_124 (by decide) (fun c24 => ?_) (fun c24 => ?_)
      · have hF := qs_pos c24 hF
        refine lv_iconst (v := 0) hx hb d_P_isSound_140 (by decide) ?_
        have h9 := Option.some.inj hF
        exact W.zret (ty := .boolean) (v := 0) hx hb hr rfl (fun t ht hW => ⟨⟨0, (), rfl, h9, trivial⟩, hS.F ht⟩) hS.2.2 d_P_isSound_141
      · have hF := qs_neg c24 hF
        refine lv_iload_n hx hb d_P_isSound_127 rfl (lv_at hl 3 rfl) ?_
        refine lv_bipush (v := 24) hx hb d_P_isSound_128 (by decide) ?_
        obtain ⟨r25, hX, hF⟩ := qs_pb_some hF
        refine qs_psi (va_runSN (own := "QuakeServer$Program") (As := [.int (a4), .int (24)]) (rest := []) ⟨hx, hb, hml, hown, hg⟩ (c_Q_isBelow l H.size (a4) (24) r25 hX) ⟨va_cnB (own := "QuakeServer$Program") (index := 18) (host := "QuakeServer") 2 hg (qs_gc t_313) rfl rfl rfl (nM_3 hNs) (hg _ t_1) (by decide +kernel) ⟨Nat.le_of_ble_eq_true rfl, Nat.le_of_ble_eq_true rfl⟩, hg _ t_312, trivial⟩ ⟨qs_blind0, fun U hU hW => ⟨rfl, by rw [hU], hNs.warm hW⟩⟩ rfl rfl hl.1 rfl (lv_room (Nat.le_of_ble_eq_true rfl)) d_P_isSound_130 ⟨Nat.le_of_ble_eq_true rfl, Nat.le_of_ble_eq_true rfl⟩) hP hD hS hA (fun H locs hP hS => ?_)
        refine lv_if_eq (tgt := 140) hx hb d_P_isSound_133 (by decide) (fun c26 => ?_) (fun c26 => ?_)
        · have hF := qs_pos c26 hF
          refine lv_iconst (v := 0) hx hb d_P_isSound_140 (by decide) ?_
          have h9 := Option.some.inj hF
          exact W.zret (ty := .boolean) (v := 0) hx hb hr rfl (fun t ht hW => ⟨⟨0, (), rfl, h9, trivial⟩, hS.F ht⟩) hS.2.2 d_P_isSound_141
        · have hF := qs_neg c26 hF
          refine lv_iconst (v := 1) hx hb d_P_isSound_136 (by decide) ?_
          refine lv_goto (tgt := 141) hx hb d_P_isSound_137 (by decide) ?_
          have h9 := Option.some.inj hF
          exact W.zret (ty := .boolean) (v := 1) hx hb hr rfl (fun t ht hW => ⟨⟨1, (), rfl, h9, trivial⟩, hS.F ht⟩) hS.2.2 d_P_isSound_141
  have hF := qs_neg c20 hF
  by_cases c27 : a1 = 4
  · have hF := qs_pos c27 hF
    refine lv_tableIn (tgt := 109) hx hb d_P_isSound_1 (by rw [c27]; decide) (by rw [c27]; decide) (by rw [c27]; rfl) (by decide) ?_
    refine lv_iload_n hx hb d_P_isSound_109 rfl (lv_at hl 1 rfl) ?_
    refine lv_bipush (v := 24) hx hb d_P_isSound_110 (by decide) ?_
    obtain ⟨r28, hX, hF⟩ := qs_pb_some hF
    refine qs_psi (va_runSN (own := "QuakeServer$Program") (As := [.int (a2), .int (24)]) (rest := []) ⟨hx, hb, hml, hown, hg⟩ (c_Q_isBelow l H.size (a2) (24) r28 hX) ⟨va_cnB (own := "QuakeServer$Program") (index := 18) (host := "QuakeServer") 2 hg (qs_gc t_313) rfl rfl rfl (nM_3 hNs) (hg _ t_1) (by decide +kernel) ⟨Nat.le_of_ble_eq_true rfl, Nat.le_of_ble_eq_true rfl⟩, hg _ t_312, trivial⟩ ⟨qs_blind0, fun U hU hW => ⟨rfl, by rw [hU], hNs.warm hW⟩⟩ rfl rfl hl.1 rfl (lv_room (Nat.le_of_ble_eq_true rfl)) d_P_isSound_112 ⟨Nat.le_of_ble_eq_true rfl, Nat.le_of_ble_eq_true rfl⟩) hP hD hS hA (fun H locs hP hS => ?_)
    refine lv_if_eq (tgt := 140) hx hb d_P_isSound_115 (by decide) (fun c29 => ?_) (fun c29 => ?_)
    · have hF := qs_pos c29 hF
      refine lv_iconst (v := 0) hx hb d_P_isSound_140 (by decide) ?_
      have h9 := Option.some.inj hF
      exact W.zret (ty := .boolean) (v := 0) hx hb hr rfl (fun t ht hW => ⟨⟨0, (), rfl, h9, trivial⟩, hS.F ht⟩) hS.2.2 d_P_isSound_141
    · have hF := qs_neg c29 hF
      refine lv_iload_n hx hb d_P_isSound_118 rfl (lv_at hl 2 rfl) ?_
      refine lv_bipush (v := 24) hx hb d_P_isSound_119 (by decide) ?_
      obtain ⟨r30, hX, hF⟩ := qs_pb_some hF
      refine qs_psi (va_runSN (own := "QuakeServer$Program") (As := [.int (a3), .int (24)]) (rest := []) ⟨hx, hb, hml, hown, hg⟩ (c_Q_isBelow l H.size (a3) (24) r30 hX) ⟨va_cnB (own := "QuakeServer$Program") (index := 18) (host := "QuakeServer") 2 hg (qs_gc t_313) rfl rfl rfl (nM_3 hNs) (hg _ t_1) (by decide +kernel) ⟨Nat.le_of_ble_eq_true rfl, Nat.le_of_ble_eq_true rfl⟩, hg _ t_312, trivial⟩ ⟨qs_blind0, fun U hU hW => ⟨rfl, by rw [hU], hNs.warm hW⟩⟩ rfl rfl hl.1 rfl (lv_room (Nat.le_of_ble_eq_true rfl)) d_P_isSound_121 ⟨Nat.le_of_ble_eq_true rfl, Nat.le_of_ble_eq_true rfl⟩) hP hD hS hA (fun H locs hP hS => ?_)
      refine lv_if_eq (tgt := 140) hx hb d_P_isSound_124 (by decide) (fun c31 => ?_) (fun c31 => ?_)
      · have hF := qs_pos c31 hF
        refine lv_iconst (v := 0) hx hb d_P_isSound_140 (by decide) ?_
        have h9 := Option.some.inj hF
        exact W.zret (ty := .boolean) (v := 0) hx hb hr rfl (fun t ht hW => ⟨⟨0, (), rfl, h9, trivial⟩, hS.F ht⟩) hS.2.2 d_P_isSound_141
      · have hF := qs_neg c31 hF
        refine lv_iload_n hx hb d_P_isSound_127 rfl (lv_at hl 3 rfl) ?_
        refine lv_bipush (v := 24) hx hb d_P_isSound_128 (by decide) ?_
        obtain ⟨r32, hX, hF⟩ := qs_pb_some hF
        refine qs_psi (va_runSN (own := "QuakeServer$Program") (As := [.int (a4), .int (24)]) (rest := []) ⟨hx, hb, hml, hown, hg⟩ (c_Q_isBelow l H.size (a4) (24) r32 hX) ⟨va_cnB (own := "QuakeServer$Program") (index := 18) (host := "QuakeServer") 2 hg (qs_gc t_313) rfl rfl rfl (nM_3 hNs) (hg _ t_1) (by decide +kernel) ⟨Nat.le_of_ble_eq_true rfl, Nat.le_of_ble_eq_true rfl⟩, hg _ t_312, trivial⟩ ⟨qs_blind0, fun U hU hW => ⟨rfl, by rw [hU], hNs.warm hW⟩⟩ rfl rfl hl.1 rfl (lv_room (Nat.le_of_ble_eq_true rfl)) d_P_isSound_130 ⟨Nat.le_of_ble_eq_true rfl, Nat.le_of_ble_eq_true rfl⟩) hP hD hS hA (fun H locs hP hS => ?_)
        refine lv_if_eq (tgt := 140) hx hb d_P_isSound_133 (by decide) (fun c33 => ?_) (fun c33 => ?_)
        · have hF := qs_pos c33 hF
          refine lv_iconst (v := 0) hx hb d_P_isSound_140 (by decide) ?_
          have h9 := Option.some.inj hF
          exact W.zret (ty := .boolean) (v := 0) hx hb hr rfl (fun t ht hW => ⟨⟨0, (), rfl, h9, trivial⟩, hS.F ht⟩) hS.2.2 d_P_isSound_141
        · have hF := qs_neg c33 hF
          refine lv_iconst (v := 1) hx hb d_P_isSound_136 (by decide) ?_
          refine lv_goto (tgt := 141) hx hb d_P_isSound_137 (by decide) ?_
          have h9 := Option.some.inj hF
          exact W.zret (ty := .boolean) (v := 1) hx hb hr rfl (fun t ht hW => ⟨⟨1, (), rfl, h9, trivial⟩, hS.F ht⟩) hS.2.2 d_P_isSound_141
  have hF := qs_neg c27 hF
  by_cases c34 : a1 = 5
  · have hF := qs_pos c34 hF
    refine lv_tableIn (tgt := 109) hx hb d_P_isSound_1 (by rw [c34]; decide) (by rw [c34]; decide) (by rw [c34]; rfl) (by decide) ?_
    refine lv_iload_n hx hb d_P_isSound_109 rfl (lv_at hl 1 rfl) ?_
    refine lv_bipush (v := 24) hx hb d_P_isSound_110 (by decide) ?_
    obtain ⟨r35, hX, hF⟩ := qs_pb_some hF
    refine qs_psi (va_runSN (own := "QuakeServer$Program") (As := [.int (a2), .int (24)]) (rest := []) ⟨hx, hb, hml, hown, hg⟩ (c_Q_isBelow l H.size (a2) (24) r35 hX) ⟨va_cnB (own := "QuakeServer$Program") (index := 18) (host := "QuakeServer") 2 hg (qs_gc t_313) rfl rfl rfl (nM_3 hNs) (hg _ t_1) (by decide +kernel) ⟨Nat.le_of_ble_eq_true rfl, Nat.le_of_ble_eq_true rfl⟩, hg _ t_312, trivial⟩ ⟨qs_blind0, fun U hU hW => ⟨rfl, by rw [hU], hNs.warm hW⟩⟩ rfl rfl hl.1 rfl (lv_room (Nat.le_of_ble_eq_true rfl)) d_P_isSound_112 ⟨Nat.le_of_ble_eq_true rfl, Nat.le_of_ble_eq_true rfl⟩) hP hD hS hA (fun H locs hP hS => ?_)
    refine lv_if_eq (tgt := 140) hx hb d_P_isSound_115 (by decide) (fun c36 => ?_) (fun c36 => ?_)
    · have hF := qs_pos c36 hF
      refine lv_iconst (v := 0) hx hb d_P_isSound_140 (by decide) ?_
      have h9 := Option.some.inj hF
      exact W.zret (ty := .boolean) (v := 0) hx hb hr rfl (fun t ht hW => ⟨⟨0, (), rfl, h9, trivial⟩, hS.F ht⟩) hS.2.2 d_P_isSound_141
    · have hF := qs_neg c36 hF
      refine lv_iload_n hx hb d_P_isSound_118 rfl (lv_at hl 2 rfl) ?_
      refine lv_bipush (v := 24) hx hb d_P_isSound_119 (by decide) ?_
      obtain ⟨r37, hX, hF⟩ := qs_pb_some hF
      refine qs_psi (va_runSN (own := "QuakeServer$Program") (As := [.int (a3), .int (24)]) (rest := []) ⟨hx, hb, hml, hown, hg⟩ (c_Q_isBelow l H.size (a3) (24) r37 hX) ⟨va_cnB (own := "QuakeServer$Program") (index := 18) (host := "QuakeServer") 2 hg (qs_gc t_313) rfl rfl rfl (nM_3 hNs) (hg _ t_1) (by decide +kernel) ⟨Nat.le_of_ble_eq_true rfl, Nat.le_of_ble_eq_true rfl⟩, hg _ t_312, trivial⟩ ⟨qs_blind0, fun U hU hW => ⟨rfl, by rw [hU], hNs.warm hW⟩⟩ rfl rfl hl.1 rfl (lv_room (Nat.le_of_ble_eq_true rfl)) d_P_isSound_121 ⟨Nat.le_of_ble_eq_true rfl, Nat.le_of_ble_eq_true rfl⟩) hP hD hS hA (fun H locs hP hS => ?_)
      refine lv_if_eq (tgt := 140) hx hb d_P_isSound_124 (by decide) (fun c38 => ?_) (fun c38 => ?_)
      · have hF := qs_pos c38 hF
        refine lv_iconst (v := 0) hx hb d_P_isSound_140 (by decide) ?_
        have h9 := Option.some.inj hF
        exact W.zret (ty := .boolean) (v := 0) hx hb hr rfl (fun t ht hW => ⟨⟨0, (), rfl, h9, trivial⟩, hS.F ht⟩) hS.2.2 d_P_isSound_141
      · have hF := qs_neg c38 hF
        refine lv_iload_n hx hb d_P_isSound_127 rfl (lv_at hl 3 rfl) ?_
        refine lv_bipush (v := 24) hx hb d_P_isSound_128 (by decide) ?_
        obtain ⟨r39, hX, hF⟩ := qs_pb_some hF
        refine qs_psi (va_runSN (own := "QuakeServer$Program") (As := [.int (a4), .int (24)]) (rest := []) ⟨hx, hb, hml, hown, hg⟩ (c_Q_isBelow l H.size (a4) (24) r39 hX) ⟨va_cnB (own := "QuakeServer$Program") (index := 18) (host := "QuakeServer") 2 hg (qs_gc t_313) rfl rfl rfl (nM_3 hNs) (hg _ t_1) (by decide +kernel) ⟨Nat.le_of_ble_eq_true rfl, Nat.le_of_ble_eq_true rfl⟩, hg _ t_312, trivial⟩ ⟨qs_blind0, fun U hU hW => ⟨rfl, by rw [hU], hNs.warm hW⟩⟩ rfl rfl hl.1 rfl (lv_room (Nat.le_of_ble_eq_true rfl)) d_P_isSound_130 ⟨Nat.le_of_ble_eq_true rfl, Nat.le_of_ble_eq_true rfl⟩) hP hD hS hA (fun H locs hP hS => ?_)
        refine lv_if_eq (tgt := 140) hx hb d_P_isSound_133 (by decide) (fun c40 => ?_) (fun c40 => ?_)
        · have hF := qs_pos c40 hF
          refine lv_iconst (v := 0) hx hb d_P_isSound_140 (by decide) ?_
          have h9 := Option.some.inj hF
          exact W.zret (ty := .boolean) (v := 0) hx hb hr rfl (fun t ht hW => ⟨⟨0, (), rfl, h9, trivial⟩, hS.F ht⟩) hS.2.2 d_P_isSound_141
        · have hF := qs_neg c40 hF
          refine lv_iconst (v := 1) hx hb d_P_isSound_136 (by decide) ?_
          refine lv_goto (tgt := 141) hx hb d_P_isSound_137 (by decide) ?_
          have h9 := Option.some.inj hF
          exact W.zret (ty := .boolean) (v := 1) hx hb hr rfl (fun t ht hW => ⟨⟨1, (), rfl, h9, trivial⟩, hS.F ht⟩) hS.2.2 d_P_isSound_141
  have hF := qs_neg c34 hF
  by_cases c41 : a1 = 6
  · have hF := qs_pos c41 hF
    refine lv_tableIn (tgt := 175) hx hb d_P_isSound_1 (by rw [c41]; decide) (by rw [c41]; decide) (by rw [c41]; rfl) (by decide) ?_
    refine lv_iload_n hx hb d_P_isSound_175 rfl (lv_at hl 1 rfl) ?_
    refine lv_bipush (v := 24) hx hb d_P_isSound_176 (by decide) ?_
    obtain ⟨r42, hX, hF⟩ := qs_pb_some hF
    refine qs_psi (va_runSN (own := "QuakeServer$Program") (As := [.int (a2), .int (24)]) (rest := []) ⟨hx, hb, hml, hown, hg⟩ (c_Q_isBelow l H.size (a2) (24) r42 hX) ⟨va_cnB (own := "QuakeServer$Program") (index := 18) (host := "QuakeServer") 2 hg (qs_gc t_313) rfl rfl rfl (nM_3 hNs) (hg _ t_1) (by decide +kernel) ⟨Nat.le_of_ble_eq_true rfl, Nat.le_of_ble_eq_true rfl⟩, hg _ t_312, trivial⟩ ⟨qs_blind0, fun U hU hW => ⟨rfl, by rw [hU], hNs.warm hW⟩⟩ rfl rfl hl.1 rfl (lv_room (Nat.le_of_ble_eq_true rfl)) d_P_isSound_178 ⟨Nat.le_of_ble_eq_true rfl, Nat.le_of_ble_eq_true rfl⟩) hP hD hS hA (fun H locs hP hS => ?_)
    refine lv_if_eq (tgt := 197) hx hb d_P_isSound_181 (by decide) (fun c43 => ?_) (fun c43 => ?_)
    · have hF := qs_pos c43 hF
      refine lv_iconst (v := 0) hx hb d_P_isSound_197 (by decide) ?_
      have h9 := Option.some.inj hF
      exact W.zret (ty := .boolean) (v := 0) hx hb hr rfl (fun t ht hW => ⟨⟨0, (), rfl, h9, trivial⟩, hS.F ht⟩) hS.2.2 d_P_isSound_198
    · have hF := qs_neg c43 hF
      refine lv_iload_n hx hb d_P_isSound_184 rfl (lv_at hl 3 rfl) ?_
      refine lv_bipush (v := 24) hx hb d_P_isSound_185 (by decide) ?_
      obtain ⟨r44, hX, hF⟩ := qs_pb_some hF
      refine qs_psi (va_runSN (own := "QuakeServer$Program") (As := [.int (a4), .int (24)]) (rest := []) ⟨hx, hb, hml, hown, hg⟩ (c_Q_isBelow l H.size (a4) (24) r44 hX) ⟨va_cnB (own := "QuakeServer$Program") (index := 18) (host := "QuakeServer") 2 hg (qs_gc t_313) rfl rfl rfl (nM_3 hNs) (hg _ t_1) (by decide +kernel) ⟨Nat.le_of_ble_eq_true rfl, Nat.le_of_ble_eq_true rfl⟩, hg _ t_312, trivial⟩ ⟨qs_blind0, fun U hU hW => ⟨rfl, by rw [hU], hNs.warm hW⟩⟩ rfl rfl hl.1 rfl (lv_room (Nat.le_of_ble_eq_true rfl)) d_P_isSound_187 ⟨Nat.le_of_ble_eq_true rfl, Nat.le_of_ble_eq_true rfl⟩) hP hD hS hA (fun H locs hP hS => ?_)
      refine lv_if_eq (tgt := 197) hx hb d_P_isSound_190 (by decide) (fun c45 => ?_) (fun c45 => ?_)
      · have hF := qs_pos c45 hF
        refine lv_iconst (v := 0) hx hb d_P_isSound_197 (by decide) ?_
        have h9 := Option.some.inj hF
        exact W.zret (ty := .boolean) (v := 0) hx hb hr rfl (fun t ht hW => ⟨⟨0, (), rfl, h9, trivial⟩, hS.F ht⟩) hS.2.2 d_P_isSound_198
      · have hF := qs_neg c45 hF
        refine lv_iconst (v := 1) hx hb d_P_isSound_193 (by decide) ?_
        refine lv_goto (tgt := 198) hx hb d_P_isSound_194 (by decide) ?_
        have h9 := Option.some.inj hF
        exact W.zret (ty := .boolean) (v := 1) hx hb hr rfl (fun t ht hW => ⟨⟨1, (), rfl, h9, trivial⟩, hS.F ht⟩) hS.2.2 d_P_isSound_198
  have hF := qs_neg c41 hF
  by_cases c46 : a1 = 7
  · have hF := qs_pos c46 hF
    refine lv_tableIn (tgt := 142) hx hb d_P_isSound_1 (by rw [c46]; decide) (by rw [c46]; decide) (by rw [c46]; rfl) (by decide) ?_
    refine lv_iload_n hx hb d_P_isSound_142 rfl (lv_at hl 1 rfl) ?_
    refine lv_bipush (v := 24) hx hb d_P_isSound_143 (by decide) ?_
    obtain ⟨r47, hX, hF⟩ := qs_pb_some hF
    refine qs_psi (va_runSN (own := "QuakeServer$Program") (As := [.int (a2), .int (24)]) (rest := []) ⟨hx, hb, hml, hown, hg⟩ (c_Q_isBelow l H.size (a2) (24) r47 hX) ⟨va_cnB (own := "QuakeServer$Program") (index := 18) (host := "QuakeServer") 2 hg (qs_gc t_313) rfl rfl rfl (nM_3 hNs) (hg _ t_1) (by decide +kernel) ⟨Nat.le_of_ble_eq_true rfl, Nat.le_of_ble_eq_true rfl⟩, hg _ t_312, trivial⟩ ⟨qs_blind0, fun U hU hW => ⟨rfl, by rw [hU], hNs.warm hW⟩⟩ rfl rfl hl.1 rfl (lv_room (Nat.le_of_ble_eq_true rfl)) d_P_isSound_145 ⟨Nat.le_of_ble_eq_true rfl, Nat.le_of_ble_eq_true rfl⟩) hP hD hS hA (fun H locs hP hS => ?_)
    refine lv_if_eq (tgt := 173) hx hb d_P_isSound_148 (by decide) (fun c48 => ?_) (fun c48 => ?_)
    · have hF := qs_pos c48 hF
      refine lv_iconst (v := 0) hx hb d_P_isSound_173 (by decide) ?_
      have h9 := Option.some.inj hF
      exact W.zret (ty := .boolean) (v := 0) hx hb hr rfl (fun t ht hW => ⟨⟨0, (), rfl, h9, trivial⟩, hS.F ht⟩) hS.2.2 d_P_isSound_174
    · have hF := qs_neg c48 hF
      refine lv_iload_n hx hb d_P_isSound_151 rfl (lv_at hl 2 rfl) ?_
      refine lv_bipush (v := 16) hx hb d_P_isSound_152 (by decide) ?_
      obtain ⟨r49, hX, hF⟩ := qs_pb_some hF
      refine qs_psi (va_runSN (own := "QuakeServer$Program") (As := [.int (a3), .int (16)]) (rest := []) ⟨hx, hb, hml, hown, hg⟩ (c_Q_isBelow l H.size (a3) (16) r49 hX) ⟨va_cnB (own := "QuakeServer$Program") (index := 18) (host := "QuakeServer") 2 hg (qs_gc t_313) rfl rfl rfl (nM_3 hNs) (hg _ t_1) (by decide +kernel) ⟨Nat.le_of_ble_eq_true rfl, Nat.le_of_ble_eq_true rfl⟩, hg _ t_312, trivial⟩ ⟨qs_blind0, fun U hU hW => ⟨rfl, by rw [hU], hNs.warm hW⟩⟩ rfl rfl hl.1 rfl (lv_room (Nat.le_of_ble_eq_true rfl)) d_P_isSound_154 ⟨Nat.le_of_ble_eq_true rfl, Nat.le_of_ble_eq_true rfl⟩) hP hD hS hA (fun H locs hP hS => ?_)
      refine lv_if_eq (tgt := 173) hx hb d_P_isSound_157 (by decide) (fun c50 => ?_) (fun c50 => ?_)
      · have hF := qs_pos c50 hF
        refine lv_iconst (v := 0) hx hb d_P_isSound_173 (by decide) ?_
        have h9 := Option.some.inj hF
        exact W.zret (ty := .boolean) (v := 0) hx hb hr rfl (fun t ht hW => ⟨⟨0, (), rfl, h9, trivial⟩, hS.F ht⟩) hS.2.2 d_P_isSound_174
      · have hF := qs_neg c50 hF
        refine lv_iload_n hx hb d_P_isSound_160 rfl (lv_at hl 3 rfl) ?_
        refine lv_bipush (v := 24) hx hb d_P_isSound_161 (by decide) ?_
        obtain ⟨r51, hX, hF⟩ := qs_pb_some hF
        refine qs_psi (va_runSN (own := "QuakeServer$Program") (As := [.int (a4), .int (24)]) (rest := []) ⟨hx, hb, hml, hown, hg⟩ (c_Q_isBelow l H.size (a4) (24) r51 hX) ⟨va_cnB (own := "QuakeServer$Program") (index := 18) (host := "QuakeServer") 2 hg (qs_gc t_313) rfl rfl rfl (nM_3 hNs) (hg _ t_1) (by decide +kernel) ⟨Nat.le_of_ble_eq_true rfl, Nat.le_of_ble_eq_true rfl⟩, hg _ t_312, trivial⟩ ⟨qs_blind0, fun U hU hW => ⟨rfl, by rw [hU], hNs.warm hW⟩⟩ rfl rfl hl.1 rfl (lv_room (Nat.le_of_ble_eq_true rfl)) d_P_isSound_163 ⟨Nat.le_of_ble_eq_true rfl, Nat.le_of_ble_eq_true rfl⟩) hP hD hS hA (fun H locs hP hS => ?_)
        refine lv_if_eq (tgt := 173) hx hb d_P_isSound_166 (by decide) (fun c52 => ?_) (fun c52 => ?_)
        · have hF := qs_pos c52 hF
          refine lv_iconst (v := 0) hx hb d_P_isSound_173 (by decide) ?_
          have h9 := Option.some.inj hF
          exact W.zret (ty := .boolean) (v := 0) hx hb hr rfl (fun t ht hW => ⟨⟨0, (), rfl, h9, trivial⟩, hS.F ht⟩) hS.2.2 d_P_isSound_174
        · have hF := qs_neg c52 hF
          refine lv_iconst (v := 1) hx hb d_P_isSound_169 (by decide) ?_
          refine lv_goto (tgt := 174) hx hb d_P_isSound_170 (by decide) ?_
          have h9 := Option.some.inj hF
          exact W.zret (ty := .boolean) (v := 1) hx hb hr rfl (fun t ht hW => ⟨⟨1, (), rfl, h9, trivial⟩, hS.F ht⟩) hS.2.2 d_P_isSound_174
  have hF := qs_neg c46 hF
  by_cases c53 : a1 = 8
  · have hF := qs_pos c53 hF
    refine lv_tableIn (tgt := 142) hx hb d_P_isSound_1 (by rw [c53]; decide) (by rw [c53]; decide) (by rw [c53]; rfl) (by decide) ?_
    refine lv_iload_n hx hb d_P_isSound_142 rfl (lv_at hl 1 rfl) ?_
    refine lv_bipush (v := 24) hx hb d_P_isSound_143 (by decide) ?_
    obtain ⟨r54, hX, hF⟩ := qs_pb_some hF
    refine qs_psi (va_runSN (own := "QuakeServer$Program") (As := [.int (a2), .int (24)]) (rest := []) ⟨hx, hb, hml, hown, hg⟩ (c_Q_isBelow l H.size (a2) (24) r54 hX) ⟨va_cnB (own := "QuakeServer$Program") (index := 18) (host := "QuakeServer") 2 hg (qs_gc t_313) rfl rfl rfl (nM_3 hNs) (hg _ t_1) (by decide +kernel) ⟨Nat.le_of_ble_eq_true rfl, Nat.le_of_ble_eq_true rfl⟩, hg _ t_312, trivial⟩ ⟨qs_blind0, fun U hU hW => ⟨rfl, by rw [hU], hNs.warm hW⟩⟩ rfl rfl hl.1 rfl (lv_room (Nat.le_of_ble_eq_true rfl)) d_P_isSound_145 ⟨Nat.le_of_ble_eq_true rfl, Nat.le_of_ble_eq_true rfl⟩) hP hD hS hA (fun H locs hP hS => ?_)
    refine lv_if_eq (tgt := 173) hx hb d_P_isSound_148 (by decide) (fun c55 => ?_) (fun c55 => ?_)
    · have hF := qs_pos c55 hF
      refine lv_iconst (v := 0) hx hb d_P_isSound_173 (by decide) ?_
      have h9 := Option.some.inj hF
      exact W.zret (ty := .boolean) (v := 0) hx hb hr rfl (fun t ht hW => ⟨⟨0, (), rfl, h9, trivial⟩, hS.F ht⟩) hS.2.2 d_P_isSound_174
    · have hF := qs_neg c55 hF
      refine lv_iload_n hx hb d_P_isSound_151 rfl (lv_at hl 2 rfl) ?_
      refine lv_bipush (v := 16) hx hb d_P_isSound_152 (by decide) ?_
      obtain ⟨r56, hX, hF⟩ := qs_pb_some hF
      refine qs_psi (va_runSN (own := "QuakeServer$Program") (As := [.int (a3), .int (16)]) (rest := []) ⟨hx, hb, hml, hown, hg⟩ (c_Q_isBelow l H.size (a3) (16) r56 hX) ⟨va_cnB (own := "QuakeServer$Program") (index := 18) (host := "QuakeServer") 2 hg (qs_gc t_313) rfl rfl rfl (nM_3 hNs) (hg _ t_1) (by decide +kernel) ⟨Nat.le_of_ble_eq_true rfl, Nat.le_of_ble_eq_true rfl⟩, hg _ t_312, trivial⟩ ⟨qs_blind0, fun U hU hW => ⟨rfl, by rw [hU], hNs.warm hW⟩⟩ rfl rfl hl.1 rfl (lv_room (Nat.le_of_ble_eq_true rfl)) d_P_isSound_154 ⟨Nat.le_of_ble_eq_true rfl, Nat.le_of_ble_eq_true rfl⟩) hP hD hS hA (fun H locs hP hS => ?_)
      refine lv_if_eq (tgt := 173) hx hb d_P_isSound_157 (by decide) (fun c57 => ?_) (fun c57 => ?_)
      · have hF := qs_pos c57 hF
        refine lv_iconst (v := 0) hx hb d_P_isSound_173 (by decide) ?_
        have h9 := Option.some.inj hF
        exact W.zret (ty := .boolean) (v := 0) hx hb hr rfl (fun t ht hW => ⟨⟨0, (), rfl, h9, trivial⟩, hS.F ht⟩) hS.2.2 d_P_isSound_174
      · have hF := qs_neg c57 hF
        refine lv_iload_n hx hb d_P_isSound_160 rfl (lv_at hl 3 rfl) ?_
        refine lv_bipush (v := 24) hx hb d_P_isSound_161 (by decide) ?_
        obtain ⟨r58, hX, hF⟩ := qs_pb_some hF
        refine qs_psi (va_runSN (own := "QuakeServer$Program") (As := [.int (a4), .int (24)]) (rest := []) ⟨hx, hb, hml, hown, hg⟩ (c_Q_isBelow l H.size (a4) (24) r58 hX) ⟨va_cnB (own := "QuakeServer$Program") (index := 18) (host := "QuakeServer") 2 hg (qs_gc t_313) rfl rfl rfl (nM_3 hNs) (hg _ t_1) (by decide +kernel) ⟨Nat.le_of_ble_eq_true rfl, Nat.le_of_ble_eq_true rfl⟩, hg _ t_312, trivial⟩ ⟨qs_blind0, fun U hU hW => ⟨rfl, by rw [hU], hNs.warm hW⟩⟩ rfl rfl hl.1 rfl (lv_room (Nat.le_of_ble_eq_true rfl)) d_P_isSound_163 ⟨Nat.le_of_ble_eq_true rfl, Nat.le_of_ble_eq_true rfl⟩) hP hD hS hA (fun H locs hP hS => ?_)
        refine lv_if_eq (tgt := 173) hx hb d_P_isSound_166 (by decide) (fun c59 => ?_) (fun c59 => ?_)
        · have hF := qs_pos c59 hF
          refine lv_iconst (v := 0) hx hb d_P_isSound_173 (by decide) ?_
          have h9 := Option.some.inj hF
          exact W.zret (ty := .boolean) (v := 0) hx hb hr rfl (fun t ht hW => ⟨⟨0, (), rfl, h9, trivial⟩, hS.F ht⟩) hS.2.2 d_P_isSound_174
        · have hF := qs_neg c59 hF
          refine lv_iconst (v := 1) hx hb d_P_isSound_169 (by decide) ?_
          refine lv_goto (tgt := 174) hx hb d_P_isSound_170 (by decide) ?_
          have h9 := Option.some.inj hF
          exact W.zret (ty := .boolean) (v := 1) hx hb hr rfl (fun t ht hW => ⟨⟨1, (), rfl, h9, trivial⟩, hS.F ht⟩) hS.2.2 d_P_isSound_174
  have hF := qs_neg c53 hF
  by_cases c60 : a1 = 9
  · have hF := qs_pos c60 hF
    refine lv_tableIn (tgt := 199) hx hb d_P_isSound_1 (by rw [c60]; decide) (by rw [c60]; decide) (by rw [c60]; rfl) (by decide) ?_
    refine lv_iload_n hx hb d_P_isSound_199 rfl (lv_at hl 1 rfl) ?_
    refine lv_bipush (v := 24) hx hb d_P_isSound_200 (by decide) ?_
    obtain ⟨r61, hX, hF⟩ := qs_pb_some hF
    refine qs_psi (va_runSN (own := "QuakeServer$Program") (As := [.int (a2), .int (24)]) (rest := []) ⟨hx, hb, hml, hown, hg⟩ (c_Q_isBelow l H.size (a2) (24) r61 hX) ⟨va_cnB (own := "QuakeServer$Program") (index := 18) (host := "QuakeServer") 2 hg (qs_gc t_313) rfl rfl rfl (nM_3 hNs) (hg _ t_1) (by decide +kernel) ⟨Nat.le_of_ble_eq_true rfl, Nat.le_of_ble_eq_true rfl⟩, hg _ t_312, trivial⟩ ⟨qs_blind0, fun U hU hW => ⟨rfl, by rw [hU], hNs.warm hW⟩⟩ rfl rfl hl.1 rfl (lv_room (Nat.le_of_ble_eq_true rfl)) d_P_isSound_202 ⟨Nat.le_of_ble_eq_true rfl, Nat.le_of_ble_eq_true rfl⟩) hP hD hS hA (fun H locs hP hS => ?_)
    refine lv_if_eq (tgt := 221) hx hb d_P_isSound_205 (by decide) (fun c62 => ?_) (fun c62 => ?_)
    · have hF := qs_pos c62 hF
      refine lv_iconst (v := 0) hx hb d_P_isSound_221 (by decide) ?_
      have h9 := Option.some.inj hF
      exact W.zret (ty := .boolean) (v := 0) hx hb hr rfl (fun t ht hW => ⟨⟨0, (), rfl, h9, trivial⟩, hS.F ht⟩) hS.2.2 d_P_isSound_222
    · have hF := qs_neg c62 hF
      refine lv_iload_n hx hb d_P_isSound_208 rfl (lv_at hl 2 rfl) ?_
      refine lv_bipush (v := 14) hx hb d_P_isSound_209 (by decide) ?_
      obtain ⟨r63, hX, hF⟩ := qs_pb_some hF
      refine qs_psi (va_runSN (own := "QuakeServer$Program") (As := [.int (a3), .int (14)]) (rest := []) ⟨hx, hb, hml, hown, hg⟩ (c_Q_isBelow l H.size (a3) (14) r63 hX) ⟨va_cnB (own := "QuakeServer$Program") (index := 18) (host := "QuakeServer") 2 hg (qs_gc t_313) rfl rfl rfl (nM_3 hNs) (hg _ t_1) (by decide +kernel) ⟨Nat.le_of_ble_eq_true rfl, Nat.le_of_ble_eq_true rfl⟩, hg _ t_312, trivial⟩ ⟨qs_blind0, fun U hU hW => ⟨rfl, by rw [hU], hNs.warm hW⟩⟩ rfl rfl hl.1 rfl (lv_room (Nat.le_of_ble_eq_true rfl)) d_P_isSound_211 ⟨Nat.le_of_ble_eq_true rfl, Nat.le_of_ble_eq_true rfl⟩) hP hD hS hA (fun H locs hP hS => ?_)
      refine lv_if_eq (tgt := 221) hx hb d_P_isSound_214 (by decide) (fun c64 => ?_) (fun c64 => ?_)
      · have hF := qs_pos c64 hF
        refine lv_iconst (v := 0) hx hb d_P_isSound_221 (by decide) ?_
        have h9 := Option.some.inj hF
        exact W.zret (ty := .boolean) (v := 0) hx hb hr rfl (fun t ht hW => ⟨⟨0, (), rfl, h9, trivial⟩, hS.F ht⟩) hS.2.2 d_P_isSound_222
      · have hF := qs_neg c64 hF
        refine lv_iconst (v := 1) hx hb d_P_isSound_217 (by decide) ?_
        refine lv_goto (tgt := 222) hx hb d_P_isSound_218 (by decide) ?_
        have h9 := Option.some.inj hF
        exact W.zret (ty := .boolean) (v := 1) hx hb hr rfl (fun t ht hW => ⟨⟨1, (), rfl, h9, trivial⟩, hS.F ht⟩) hS.2.2 d_P_isSound_222
  have hF := qs_neg c60 hF
  by_cases c65 : a1 = 10
  · have hF := qs_pos c65 hF
    refine lv_tableIn (tgt := 223) hx hb d_P_isSound_1 (by rw [c65]; decide) (by rw [c65]; decide) (by rw [c65]; rfl) (by decide) ?_
    refine lv_iload_n hx hb d_P_isSound_223 rfl (lv_at hl 2 rfl) ?_
    refine lv_bipush (v := 14) hx hb d_P_isSound_224 (by decide) ?_
    obtain ⟨r66, hX, hF⟩ := qs_pb_some hF
    refine qs_psi (va_runSN (own := "QuakeServer$Program") (As := [.int (a3), .int (14)]) (rest := []) ⟨hx, hb, hml, hown, hg⟩ (c_Q_isBelow l H.size (a3) (14) r66 hX) ⟨va_cnB (own := "QuakeServer$Program") (index := 18) (host := "QuakeServer") 2 hg (qs_gc t_313) rfl rfl rfl (nM_3 hNs) (hg _ t_1) (by decide +kernel) ⟨Nat.le_of_ble_eq_true rfl, Nat.le_of_ble_eq_true rfl⟩, hg _ t_312, trivial⟩ ⟨qs_blind0, fun U hU hW => ⟨rfl, by rw [hU], hNs.warm hW⟩⟩ rfl rfl hl.1 rfl (lv_room (Nat.le_of_ble_eq_true rfl)) d_P_isSound_226 ⟨Nat.le_of_ble_eq_true rfl, Nat.le_of_ble_eq_true rfl⟩) hP hD hS hA (fun H locs hP hS => ?_)
    obtain ⟨c67, hF⟩ := qs_bo_some hF
    have h9 := Option.some.inj hF
    exact W.zret (ty := .boolean) (v := r66) hx hb hr c67 (fun t ht hW => ⟨⟨r66, (), rfl, h9, trivial⟩, hS.F ht⟩) hS.2.2 d_P_isSound_229
  have hF := qs_neg c65 hF
  by_cases c68 : a1 = 11
  · have hF := qs_pos c68 hF
    refine lv_tableIn (tgt := 230) hx hb d_P_isSound_1 (by rw [c68]; decide) (by rw [c68]; decide) (by rw [c68]; rfl) (by decide) ?_
    refine lv_iload_n hx hb d_P_isSound_230 rfl (lv_at hl 1 rfl) ?_
    refine lv_bipush (v := 6) hx hb d_P_isSound_231 (by decide) ?_
    obtain ⟨r69, hX, hF⟩ := qs_pb_some hF
    refine qs_psi (va_runSN (own := "QuakeServer$Program") (As := [.int (a2), .int (6)]) (rest := []) ⟨hx, hb, hml, hown, hg⟩ (c_Q_isBelow l H.size (a2) (6) r69 hX) ⟨va_cnB (own := "QuakeServer$Program") (index := 18) (host := "QuakeServer") 2 hg (qs_gc t_313) rfl rfl rfl (nM_3 hNs) (hg _ t_1) (by decide +kernel) ⟨Nat.le_of_ble_eq_true rfl, Nat.le_of_ble_eq_true rfl⟩, hg _ t_312, trivial⟩ ⟨qs_blind0, fun U hU hW => ⟨rfl, by rw [hU], hNs.warm hW⟩⟩ rfl rfl hl.1 rfl (lv_room (Nat.le_of_ble_eq_true rfl)) d_P_isSound_233 ⟨Nat.le_of_ble_eq_true rfl, Nat.le_of_ble_eq_true rfl⟩) hP hD hS hA (fun H locs hP hS => ?_)
    obtain ⟨c70, hF⟩ := qs_bo_some hF
    have h9 := Option.some.inj hF
    exact W.zret (ty := .boolean) (v := r69) hx hb hr c70 (fun t ht hW => ⟨⟨r69, (), rfl, h9, trivial⟩, hS.F ht⟩) hS.2.2 d_P_isSound_236
  have hF := qs_neg c68 hF
  by_cases c71 : a1 = 12
  · have hF := qs_pos c71 hF
    refine lv_tableIn (tgt := 244) hx hb d_P_isSound_1 (by rw [c71]; decide) (by rw [c71]; decide) (by rw [c71]; rfl) (by decide) ?_
    refine lv_iload_n hx hb d_P_isSound_244 rfl (lv_at hl 3 rfl) ?_
    refine lv_bipush (v := 24) hx hb d_P_isSound_245 (by decide) ?_
    obtain ⟨r72, hX, hF⟩ := qs_pb_some hF
    refine qs_psi (va_runSN (own := "QuakeServer$Program") (As := [.int (a4), .int (24)]) (rest := []) ⟨hx, hb, hml, hown, hg⟩ (c_Q_isBelow l H.size (a4) (24) r72 hX) ⟨va_cnB (own := "QuakeServer$Program") (index := 18) (host := "QuakeServer") 2 hg (qs_gc t_313) rfl rfl rfl (nM_3 hNs) (hg _ t_1) (by decide +kernel) ⟨Nat.le_of_ble_eq_true rfl, Nat.le_of_ble_eq_true rfl⟩, hg _ t_312, trivial⟩ ⟨qs_blind0, fun U hU hW => ⟨rfl, by rw [hU], hNs.warm hW⟩⟩ rfl rfl hl.1 rfl (lv_room (Nat.le_of_ble_eq_true rfl)) d_P_isSound_247 ⟨Nat.le_of_ble_eq_true rfl, Nat.le_of_ble_eq_true rfl⟩) hP hD hS hA (fun H locs hP hS => ?_)
    obtain ⟨c73, hF⟩ := qs_bo_some hF
    have h9 := Option.some.inj hF
    exact W.zret (ty := .boolean) (v := r72) hx hb hr c73 (fun t ht hW => ⟨⟨r72, (), rfl, h9, trivial⟩, hS.F ht⟩) hS.2.2 d_P_isSound_250
  have hF := qs_neg c71 hF
  by_cases c74 : a1 = 13
  · have hF := qs_pos c74 hF
    refine lv_tableIn (tgt := 237) hx hb d_P_isSound_1 (by rw [c74]; decide) (by rw [c74]; decide) (by rw [c74]; rfl) (by decide) ?_
    refine lv_iload_n hx hb d_P_isSound_237 rfl (lv_at hl 1 rfl) ?_
    refine lv_bipush (v := 24) hx hb d_P_isSound_238 (by decide) ?_
    obtain ⟨r75, hX, hF⟩ := qs_pb_some hF
    refine qs_psi (va_runSN (own := "QuakeServer$Program") (As := [.int (a2), .int (24)]) (rest := []) ⟨hx, hb, hml, hown, hg⟩ (c_Q_isBelow l H.size (a2) (24) r75 hX) ⟨va_cnB (own := "QuakeServer$Program") (index := 18) (host := "QuakeServer") 2 hg (qs_gc t_313) rfl rfl rfl (nM_3 hNs) (hg _ t_1) (by decide +kernel) ⟨Nat.le_of_ble_eq_true rfl, Nat.le_of_ble_eq_true rfl⟩, hg _ t_312, trivial⟩ ⟨qs_blind0, fun U hU hW => ⟨rfl, by rw [hU], hNs.warm hW⟩⟩ rfl rfl hl.1 rfl (lv_room (Nat.le_of_ble_eq_true rfl)) d_P_isSound_240 ⟨Nat.le_of_ble_eq_true rfl, Nat.le_of_ble_eq_true rfl⟩) hP hD hS hA (fun H locs hP hS => ?_)
    obtain ⟨c76, hF⟩ := qs_bo_some hF
    have h9 := Option.some.inj hF
    exact W.zret (ty := .boolean) (v := r75) hx hb hr c76 (fun t ht hW => ⟨⟨r75, (), rfl, h9, trivial⟩, hS.F ht⟩) hS.2.2 d_P_isSound_243
  have hF := qs_neg c74 hF
  by_cases c77 : a1 = 14
  · have hF := qs_pos c77 hF
    refine lv_tableIn (tgt := 175) hx hb d_P_isSound_1 (by rw [c77]; decide) (by rw [c77]; decide) (by rw [c77]; rfl) (by decide) ?_
    refine lv_iload_n hx hb d_P_isSound_175 rfl (lv_at hl 1 rfl) ?_
    refine lv_bipush (v := 24) hx hb d_P_isSound_176 (by decide) ?_
    obtain ⟨r78, hX, hF⟩ := qs_pb_some hF
    refine qs_psi (va_runSN (own := "QuakeServer$Program") (As := [.int (a2), .int (24)]) (rest := []) ⟨hx, hb, hml, hown, hg⟩ (c_Q_isBelow l H.size (a2) (24) r78 hX) ⟨va_cnB (own := "QuakeServer$Program") (index := 18) (host := "QuakeServer") 2 hg (qs_gc t_313) rfl rfl rfl (nM_3 hNs) (hg _ t_1) (by decide +kernel) ⟨Nat.le_of_ble_eq_true rfl, Nat.le_of_ble_eq_true rfl⟩, hg _ t_312, trivial⟩ ⟨qs_blind0, fun U hU hW => ⟨rfl, by rw [hU], hNs.warm hW⟩⟩ rfl rfl hl.1 rfl (lv_room (Nat.le_of_ble_eq_true rfl)) d_P_isSound_178 ⟨Nat.le_of_ble_eq_true rfl, Nat.le_of_ble_eq_true rfl⟩) hP hD hS hA (fun H locs hP hS => ?_)
    refine lv_if_eq (tgt := 197) hx hb d_P_isSound_181 (by decide) (fun c79 => ?_) (fun c79 => ?_)
    · have hF := qs_pos c79 hF
      refine lv_iconst (v := 0) hx hb d_P_isSound_197 (by decide) ?_
      have h9 := Option.some.inj hF
      exact W.zret (ty := .boolean) (v := 0) hx hb hr rfl (fun t ht hW => ⟨⟨0, (), rfl, h9, trivial⟩, hS.F ht⟩) hS.2.2 d_P_isSound_198
    · have hF := qs_neg c79 hF
      refine lv_iload_n hx hb d_P_isSound_184 rfl (lv_at hl 3 rfl) ?_
      refine lv_bipush (v := 24) hx hb d_P_isSound_185 (by decide) ?_
      obtain ⟨r80, hX, hF⟩ := qs_pb_some hF
      refine qs_psi (va_runSN (own := "QuakeServer$Program") (As := [.int (a4), .int (24)]) (rest := []) ⟨hx, hb, hml, hown, hg⟩ (c_Q_isBelow l H.size (a4) (24) r80 hX) ⟨va_cnB (own := "QuakeServer$Program") (index := 18) (host := "QuakeServer") 2 hg (qs_gc t_313) rfl rfl rfl (nM_3 hNs) (hg _ t_1) (by decide +kernel) ⟨Nat.le_of_ble_eq_true rfl, Nat.le_of_ble_eq_true rfl⟩, hg _ t_312, trivial⟩ ⟨qs_blind0, fun U hU hW => ⟨rfl, by rw [hU], hNs.warm hW⟩⟩ rfl rfl hl.1 rfl (lv_room (Nat.le_of_ble_eq_true rfl)) d_P_isSound_187 ⟨Nat.le_of_ble_eq_true rfl, Nat.le_of_ble_eq_true rfl⟩) hP hD hS hA (fun H locs hP hS => ?_)
      refine lv_if_eq (tgt := 197) hx hb d_P_isSound_190 (by decide) (fun c81 => ?_) (fun c81 => ?_)
      · have hF := qs_pos c81 hF
        refine lv_iconst (v := 0) hx hb d_P_isSound_197 (by decide) ?_
        have h9 := Option.some.inj hF
        exact W.zret (ty := .boolean) (v := 0) hx hb hr rfl (fun t ht hW => ⟨⟨0, (), rfl, h9, trivial⟩, hS.F ht⟩) hS.2.2 d_P_isSound_198
      · have hF := qs_neg c81 hF
        refine lv_iconst (v := 1) hx hb d_P_isSound_193 (by decide) ?_
        refine lv_goto (tgt := 198) hx hb d_P_isSound_194 (by decide) ?_
        have h9 := Option.some.inj hF
        exact W.zret (ty := .boolean) (v := 1) hx hb hr rfl (fun t ht hW => ⟨⟨1, (), rfl, h9, trivial⟩, hS.F ht⟩) hS.2.2 d_P_isSound_198
  have hF := qs_neg c77 hF
  by_cases c82 : a1 = 15
  · have hF := qs_pos c82 hF
    refine lv_tableIn (tgt := 244) hx hb d_P_isSound_1 (by rw [c82]; decide) (by rw [c82]; decide) (by rw [c82]; rfl) (by decide) ?_
    refine lv_iload_n hx hb d_P_isSound_244 rfl (lv_at hl 3 rfl) ?_
    refine lv_bipush (v := 24) hx hb d_P_isSound_245 (by decide) ?_
    obtain ⟨r83, hX, hF⟩ := qs_pb_some hF
    refine qs_psi (va_runSN (own := "QuakeServer$Program") (As := [.int (a4), .int (24)]) (rest := []) ⟨hx, hb, hml, hown, hg⟩ (c_Q_isBelow l H.size (a4) (24) r83 hX) ⟨va_cnB (own := "QuakeServer$Program") (index := 18) (host := "QuakeServer") 2 hg (qs_gc t_313) rfl rfl rfl (nM_3 hNs) (hg _ t_1) (by decide +kernel) ⟨Nat.le_of_ble_eq_true rfl, Nat.le_of_ble_eq_true rfl⟩, hg _ t_312, trivial⟩ ⟨qs_blind0, fun U hU hW => ⟨rfl, by rw [hU], hNs.warm hW⟩⟩ rfl rfl hl.1 rfl (lv_room (Nat.le_of_ble_eq_true rfl)) d_P_isSound_247 ⟨Nat.le_of_ble_eq_true rfl, Nat.le_of_ble_eq_true rfl⟩) hP hD hS hA (fun H locs hP hS => ?_)
    obtain ⟨c84, hF⟩ := qs_bo_some hF
    have h9 := Option.some.inj hF
    exact W.zret (ty := .boolean) (v := r83) hx hb hr c84 (fun t ht hW => ⟨⟨r83, (), rfl, h9, trivial⟩, hS.F ht⟩) hS.2.2 d_P_isSound_250
  have hF := qs_neg c82 hF
  refine lv_tableOut (tgt := 251) hx hb d_P_isSound_1 (by have := lv_neT (a := 0) c1 (by decide); have := lv_neT (a := 1) c6 (by decide); have := lv_neT (a := 2) c13 (by decide); have := lv_neT (a := 3) c20 (by decide); have := lv_neT (a := 4) c27 (by decide); have := lv_neT (a := 5) c34 (by decide); have := lv_neT (a := 6) c41 (by decide); have := lv_neT (a := 7) c46 (by decide); have := lv_neT (a := 8) c53 (by decide); have := lv_neT (a := 9) c60 (by decide); have := lv_neT (a := 10) c65 (by decide); have := lv_neT (a := 11) c68 (by decide); have := lv_neT (a := 12) c71 (by decide); have := lv_neT (a := 13) c74 (by decide); have := lv_neT (a := 14) c77 (by decide); have := lv_neT (a := 15) c82 (by decide); omega) (by decide) ?_
  refine lv_iload_n hx hb d_P_isSound_251 rfl (lv_at hl 0 rfl) ?_
  refine lv_bipush (v := 16) hx hb d_P_isSound_252 (by decide) ?_
  refine lv_icmp_ne (tgt := 261) hx hb d_P_isSound_254 (by decide) (fun c85 => ?_) (fun c85 => ?_)
  · have hF := qs_neg c85 hF
    refine lv_iconst (v := 0) hx hb d_P_isSound_261 (by decide) ?_
    have h9 := Option.some.inj hF
    exact W.zret (ty := .boolean) (v := 0) hx hb hr rfl (fun t ht hW => ⟨⟨0, (), rfl, h9, trivial⟩, hS.F ht⟩) hS.2.2 d_P_isSound_262
  · have hF := qs_pos c85 hF
    refine lv_iconst (v := 1) hx hb d_P_isSound_257 (by decide) ?_
    refine lv_goto (tgt := 262) hx hb d_P_isSound_258 (by decide) ?_
    have h9 := Option.some.inj hF
    exact W.zret (ty := .boolean) (v := 1) hx hb hr rfl (fun t ht hW => ⟨⟨1, (), rfl, h9, trivial⟩, hS.F ht⟩) hS.2.2 d_P_isSound_262
end
section
theorem d_Q_wall_0 : decode b_Q_wall 0 = .ok (.iload_n 1, 1) := by decide +kernel
theorem d_Q_wall_1 : decode b_Q_wall 1 = .ok (.invokestatic 57, 3) := by decide +kernel
theorem d_Q_wall_4 : decode b_Q_wall 4 = .ok (.ifCond .eq 25, 3) := by decide +kernel
theorem d_Q_wall_7 : decode b_Q_wall 7 = .ok (.iload_n 2, 1) := by decide +kernel
theorem d_Q_wall_8 : decode b_Q_wall 8 = .ok (.invokestatic 57, 3) := by decide +kernel
theorem d_Q_wall_11 : decode b_Q_wall 11 = .ok (.ifCond .eq 18, 3) := by decide +kernel
theorem d_Q_wall_14 : decode b_Q_wall 14 = .ok (.iload_n 3, 1) := by decide +kernel
theorem d_Q_wall_15 : decode b_Q_wall 15 = .ok (.invokestatic 57, 3) := by decide +kernel
theorem d_Q_wall_18 : decode b_Q_wall 18 = .ok (.ifCond .eq 11, 3) := by decide +kernel
theorem d_Q_wall_21 : decode b_Q_wall 21 = .ok (.iload 4, 2) := by decide +kernel
theorem d_Q_wall_23 : decode b_Q_wall 23 = .ok (.invokestatic 57, 3) := by decide +kernel
theorem d_Q_wall_26 : decode b_Q_wall 26 = .ok (.ifCond .ne 13, 3) := by decide +kernel
theorem d_Q_wall_29 : decode b_Q_wall 29 = .ok (.new 61, 3) := by decide +kernel
theorem d_Q_wall_32 : decode b_Q_wall 32 = .ok (.dup, 1) := by decide +kernel
theorem d_Q_wall_33 : decode b_Q_wall 33 = .ok (.ldc 63, 2) := by decide +kernel
theorem d_Q_wall_35 : decode b_Q_wall 35 = .ok (.invokespecial 65, 3) := by decide +kernel
theorem d_Q_wall_38 : decode b_Q_wall 38 = .ok (.athrow, 1) := by decide +kernel
theorem d_Q_wall_39 : decode b_Q_wall 39 = .ok (.iload_n 1, 1) := by decide +kernel
theorem d_Q_wall_40 : decode b_Q_wall 40 = .ok (.iload_n 3, 1) := by decide +kernel
theorem d_Q_wall_41 : decode b_Q_wall 41 = .ok (.if_icmp .ge 9, 3) := by decide +kernel
theorem d_Q_wall_44 : decode b_Q_wall 44 = .ok (.iload_n 2, 1) := by decide +kernel
theorem d_Q_wall_45 : decode b_Q_wall 45 = .ok (.iload 4, 2) := by decide +kernel
theorem d_Q_wall_47 : decode b_Q_wall 47 = .ok (.if_icmp .lt 13, 3) := by decide +kernel
theorem d_Q_wall_50 : decode b_Q_wall 50 = .ok (.new 61, 3) := by decide +kernel
theorem d_Q_wall_53 : decode b_Q_wall 53 = .ok (.dup, 1) := by decide +kernel
theorem d_Q_wall_54 : decode b_Q_wall 54 = .ok (.ldc 68, 2) := by decide +kernel
theorem d_Q_wall_56 : decode b_Q_wall 56 = .ok (.invokespecial 65, 3) := by decide +kernel
theorem d_Q_wall_59 : decode b_Q_wall 59 = .ok (.athrow, 1) := by decide +kernel
theorem d_Q_wall_60 : decode b_Q_wall 60 = .ok (.aload_n 0, 1) := by decide +kernel
theorem d_Q_wall_61 : decode b_Q_wall 61 = .ok (.getfield 19, 3) := by decide +kernel
theorem d_Q_wall_64 : decode b_Q_wall 64 = .ok (.getfield 70, 3) := by decide +kernel
theorem d_Q_wall_67 : decode b_Q_wall 67 = .ok (.bipush 6, 2) := by decide +kernel
theorem d_Q_wall_69 : decode b_Q_wall 69 = .ok (.if_icmp .ne 13, 3) := by decide +kernel
theorem d_Q_wall_72 : decode b_Q_wall 72 = .ok (.new 74, 3) := by decide +kernel
theorem d_Q_wall_75 : decode b_Q_wall 75 = .ok (.dup, 1) := by decide +kernel
theorem d_Q_wall_76 : decode b_Q_wall 76 = .ok (.ldc 76, 2) := by decide +kernel
theorem d_Q_wall_78 : decode b_Q_wall 78 = .ok (.invokespecial 78, 3) := by decide +kernel
theorem d_Q_wall_81 : decode b_Q_wall 81 = .ok (.athrow, 1) := by decide +kernel
theorem d_Q_wall_82 : decode b_Q_wall 82 = .ok (.aload_n 0, 1) := by decide +kernel
theorem d_Q_wall_83 : decode b_Q_wall 83 = .ok (.getfield 19, 3) := by decide +kernel
theorem d_Q_wall_86 : decode b_Q_wall 86 = .ok (.iload_n 1, 1) := by decide +kernel
theorem d_Q_wall_87 : decode b_Q_wall 87 = .ok (.iload_n 2, 1) := by decide +kernel
theorem d_Q_wall_88 : decode b_Q_wall 88 = .ok (.iload_n 3, 1) := by decide +kernel
theorem d_Q_wall_89 : decode b_Q_wall 89 = .ok (.iload 4, 2) := by decide +kernel
theorem d_Q_wall_91 : decode b_Q_wall 91 = .ok (.invokevirtual 79, 3) := by decide +kernel
theorem d_Q_wall_94 : decode b_Q_wall 94 = .ok (.ireturn, 1) := by decide +kernel
def f_Q_wall (g : Sg) (a1 : Int32) (a2 : Int32) (a3 : Int32) (a4 : Int32) : Option ((String × Sg) ⊕ (Int32 × Sg)) := (qs_pb (f_Q_isInWorld (a1)) fun r1 => (if r1 = 0 then (some (.inl ("java/lang/IllegalArgumentException", g))) else (qs_pb (f_Q_isInWorld (a2)) fun r3 => (if r3 = 0 then (some (.inl ("java/lang/IllegalArgumentException", g))) else (qs_pb (f_Q_isInWorld (a3)) fun r5 => (if r5 = 0 then (some (.inl ("java/lang/IllegalArgumentException", g))) else (qs_pb (f_Q_isInWorld (a4)) fun r7 => (if r7 = 0 then (some (.inl ("java/lang/IllegalArgumentException", g))) else (if a3 ≤ a1 then (some (.inl ("java/lang/IllegalArgumentException", g))) else (if a2 < a4 then (if (g 20 0) = 6 then (some (.inl ("java/lang/IllegalStateException", g))) else (qs_bn (f_W_add g (a1) (a2) (a3) (a4)) fun r12 u13 => (some (.inr (r12, u13))))) else (some (.inl ("java/lang/IllegalArgumentException", g)))))))))))))
set_option maxHeartbeats 4000000 in
set_option maxRecDepth 100000 in
theorem c_Q_wall (l : Launch) (hl9 : l.stackTraces = false) (dC : Nat → ClassId) (dI : Nat → Nat → Nat) (h : Nat → Nat) (c : Nat → ClassId) (sz : Nat) (sa63 : Nat) (sa68 : Nat) (sa76 : Nat) (g : Sg) (a1 : Int32) (a2 : Int32) (a3 : Int32) (a4 : Int32) (r0 : ((String × Sg) ⊕ (Int32 × Sg))) (hF : f_Q_wall g a1 a2 a3 a4 = some r0) : vx_Met l y_Q_wall (qs_ws y_Q_wall b_Q_wall 5 (some .int)) ({ frames := 6, cells := 1, slots := 6, locals := 82 } : Room) (va_Pc ([.ref (h 0), .int a1, .int a2, .int a3, .int a4] : List Value) (fun U => U.heap.size = sz ∧ va_P (dC, dI) vwCl (qs_W h c g) U.heap ∧ va_K (dC, dI) vwCl (qs_T c) U ∧ va_D (fun _ => True) (qs_W h c g) ∧ qs_N U ∧ vx_Zq Bundle.tN "UNASSIGNED_STACK" Bundle.steD (va_A (qs_W h c g) sz) U U.heap ∧ vx_Zq Bundle.tN "SUPPRESSED_SENTINEL" Bundle.listD (va_A (qs_W h c g) sz) U U.heap ∧ vk_R R_Q 63 "a wall\'s side is not -1024 .. 1024" sa63 U ∧ vk_R R_Q 68 "a wall ends where it begins, or before" sa68 U ∧ vk_R R_Q 76 "all walls are there" sa76 U)) (va_Qi (fun (r : Int32) (u : Sg) => r0 = .inr (r, u)) (qs_at dC dI h c (va_A (qs_W h c g) sz)) (va_A (qs_W h c g) sz)) (vx_X (fun (_ : Sg) => True) (fun E u t => (r0 = .inl (E, u) ∧ E ∈ (["java/lang/IllegalArgumentException", "java/lang/IllegalStateException"] : List String)) ∧ qs_at dC dI h c (va_A (qs_W h c g) sz) u t) (va_A (qs_W h c g) sz)) 1 6 (va_A (qs_W h c g) sz) := by
  refine vx_ofW (cc := b_Q_wall) (maxL := 5) (ret := (some .int)) (by decide +kernel) rfl ?_
  intro p e s m args below meth cd s₁ B hml ht hv
  obtain ⟨rfl, hsz, hP, hK, hD0, hNs, hU, hN, hs63, hs68, hs76⟩ := hv
  have hx := B.exec
  have hb := B.bytes
  have hr := B.returns
  have hts := atoms_spec (ws := (qs_ws y_Q_wall b_Q_wall 5 (some .int))) B.pre
  have hg : ∀ w ∈ qs_gt, w.before _ s = true := fun w h => hts w (List.mem_cons_of_mem _ h)
  have hown : s.vm.findClass R_Q = some m.cls := findClass_of_methodNamed B.named
  have hlocks := B.notSynchronized
  subst hsz
  have hD := hD0.self (sz := s.heap.size)
  generalize hAe : va_A (qs_W h c g) s.heap.size = A at hD hU hN ⊢
  have hA : ∀ q : Nat, s.heap.size ≤ q → A q := fun q h => by rw [← hAe]; exact Or.inr h
  have hS : va_S A s.heap s.heap [] := va_S.rf
  have hl := lv_entry ([.ref (h 0), .int a1, .int a2, .int a3, .int a4] : List Value) (n := 5) (Nat.le_of_ble_eq_true rfl)
  rw [lg_entry_eq]
  generalize (lg_sl ([.ref (h 0), .int a1, .int a2, .int a3, .int a4] : List Value) ++ List.replicate (5 - (lg_sl ([.ref (h 0), .int a1, .int a2, .int a3, .int a4] : List Value)).length) Slot.unset).toArray = ls at hl ⊢
  have hl : lv_has ls 5 [(0, .ref (h 0)), (1, .int (a1)), (2, .int (a2)), (3, .int (a3)), (4, .int (a4))] := hl
  unfold f_Q_wall at hF
  obtain ⟨H, hHe⟩ : ∃ H, H = s.heap := ⟨_, rfl⟩
  obtain ⟨locs, hLe⟩ : ∃ L : List Loc, L = [] := ⟨_, rfl⟩
  rw [← hHe] at hP ⊢
  rw [← hLe]
  have hS : va_S A s.heap H locs := by rw [hHe, hLe]; exact hS
  refine lv_iload_n hx hb d_Q_wall_0 rfl (lv_at hl 1 rfl) ?_
  obtain ⟨r1, hX, hF⟩ := qs_pb_some hF
  refine qs_psi (va_runS (own := "QuakeServer") (As := [.int (a1)]) (rest := []) ⟨hx, hb, hml, hown, hg⟩ (c_Q_isInWorld l H.size (a1) r1 hX) (va_cwS 1 hg (qs_gS t_212 t_213 t_1 t_214) rfl rfl rfl (by decide +kernel) ⟨Nat.le_of_ble_eq_true rfl, Nat.le_of_ble_eq_true rfl⟩) ⟨qs_blind0, fun U hU hW => ⟨rfl, by rw [hU], hNs.warm hW⟩⟩ rfl rfl hl.1 rfl (lv_room (Nat.le_of_ble_eq_true rfl)) d_Q_wall_1 ⟨Nat.le_of_ble_eq_true rfl, Nat.le_of_ble_eq_true rfl⟩) hP hD hS hA (fun H locs hP hS => ?_)
  refine lv_if_eq (tgt := 29) hx hb d_Q_wall_4 (by decide) (fun c2 => ?_) (fun c2 => ?_)
  · have hF := qs_pos c2 hF
    have h9 := Option.some.inj hF
    exact vx_throwS (text := "a wall\'s side is not -1024 .. 1024") (names := ["java/lang/RuntimeException", "java/lang/Exception"]) hx hb hl9 hown (by decide +kernel) (by decide +kernel) (hg _ t_215) (hg _ t_12) hs63 (ha_Q_65 hg hNs) hd_Q_65 hU hN hS (hl.1.trans hml.symm) d_Q_wall_29 d_Q_wall_32 d_Q_wall_33 d_Q_wall_35 d_Q_wall_38 (fun x h => (ht x h).elim) (Nat.le_of_ble_eq_true rfl) (Nat.le_of_ble_eq_true rfl) (Nat.le_of_ble_eq_true rfl) (Nat.le_of_ble_eq_true rfl) hlocks (fun t hvm hz hk => ⟨g, trivial, ⟨⟨h9.symm, by decide⟩, hP.kept (fun k q hq => hk q.1 (hP k q hq).lt), va_K.moved hvm hK, hD⟩, qs_F hS hz hk⟩) hS.2.2 (Nat.le_refl _) (Nat.le_refl _)
  · have hF := qs_neg c2 hF
    refine lv_iload_n hx hb d_Q_wall_7 rfl (lv_at hl 2 rfl) ?_
    obtain ⟨r3, hX, hF⟩ := qs_pb_some hF
    refine qs_psi (va_runS (own := "QuakeServer") (As := [.int (a2)]) (rest := []) ⟨hx, hb, hml, hown, hg⟩ (c_Q_isInWorld l H.size (a2) r3 hX) (va_cwS 1 hg (qs_gS t_212 t_213 t_1 t_214) rfl rfl rfl (by decide +kernel) ⟨Nat.le_of_ble_eq_true rfl, Nat.le_of_ble_eq_true rfl⟩) ⟨qs_blind0, fun U hU hW => ⟨rfl, by rw [hU], hNs.warm hW⟩⟩ rfl rfl hl.1 rfl (lv_room (Nat.le_of_ble_eq_true rfl)) d_Q_wall_8 ⟨Nat.le_of_ble_eq_true rfl, Nat.le_of_ble_eq_true rfl⟩) hP hD hS hA (fun H locs hP hS => ?_)
    refine lv_if_eq (tgt := 29) hx hb d_Q_wall_11 (by decide) (fun c4 => ?_) (fun c4 => ?_)
    · have hF := qs_pos c4 hF
      have h9 := Option.some.inj hF
      exact vx_throwS (text := "a wall\'s side is not -1024 .. 1024") (names := ["java/lang/RuntimeException", "java/lang/Exception"]) hx hb hl9 hown (by decide +kernel) (by decide +kernel) (hg _ t_215) (hg _ t_12) hs63 (ha_Q_65 hg hNs) hd_Q_65 hU hN hS (hl.1.trans hml.symm) d_Q_wall_29 d_Q_wall_32 d_Q_wall_33 d_Q_wall_35 d_Q_wall_38 (fun x h => (ht x h).elim) (Nat.le_of_ble_eq_true rfl) (Nat.le_of_ble_eq_true rfl) (Nat.le_of_ble_eq_true rfl) (Nat.le_of_ble_eq_true rfl) hlocks (fun t hvm hz hk => ⟨g, trivial, ⟨⟨h9.symm, by decide⟩, hP.kept (fun k q hq => hk q.1 (hP k q hq).lt), va_K.moved hvm hK, hD⟩, qs_F hS hz hk⟩) hS.2.2 (Nat.le_refl _) (Nat.le_refl _)
    · have hF := qs_neg c4 hF
      refine lv_iload_n hx hb d_Q_wall_14 rfl (lv_at hl 3 rfl) ?_
      obtain ⟨r5, hX, hF⟩ := qs_pb_some hF
      refine qs_psi (va_runS (own := "QuakeServer") (As := [.int (a3)]) (rest := []) ⟨hx, hb, hml, hown, hg⟩ (c_Q_isInWorld l H.size (a3) r5 hX) (va_cwS 1 hg (qs_gS t_212 t_213 t_1 t_214) rfl rfl rfl (by decide +kernel) ⟨Nat.le_of_ble_eq_true rfl, Nat.le_of_ble_eq_true rfl⟩) ⟨qs_blind0, fun U hU hW => ⟨rfl, by rw [hU], hNs.warm hW⟩⟩ rfl rfl hl.1 rfl (lv_room (Nat.le_of_ble_eq_true rfl)) d_Q_wall_15 ⟨Nat.le_of_ble_eq_true rfl, Nat.le_of_ble_eq_true rfl⟩) hP hD hS hA (fun H locs hP hS => ?_)
      refine lv_if_eq (tgt := 29) hx hb d_Q_wall_18 (by decide) (fun c6 => ?_) (fun c6 => ?_)
      · have hF := qs_pos c6 hF
        have h9 := Option.some.inj hF
        exact vx_throwS (text := "a wall\'s side is not -1024 .. 1024") (names := ["java/lang/RuntimeException", "java/lang/Exception"]) hx hb hl9 hown (by decide +kernel) (by decide +kernel) (hg _ t_215) (hg _ t_12) hs63 (ha_Q_65 hg hNs) hd_Q_65 hU hN hS (hl.1.trans hml.symm) d_Q_wall_29 d_Q_wall_32 d_Q_wall_33 d_Q_wall_35 d_Q_wall_38 (fun x h => (ht x h).elim) (Nat.le_of_ble_eq_true rfl) (Nat.le_of_ble_eq_true rfl) (Nat.le_of_ble_eq_true rfl) (Nat.le_of_ble_eq_true rfl) hlocks (fun t hvm hz hk => ⟨g, trivial, ⟨⟨h9.symm, by decide⟩, hP.kept (fun k q hq => hk q.1 (hP k q hq).lt), va_K.moved hvm hK, hD⟩, qs_F hS hz hk⟩) hS.2.2 (Nat.le_refl _) (Nat.le_refl _)
      · have hF := qs_neg c6 hF
        refine lv_iload hx hb d_Q_wall_21 (lv_at hl 4 rfl) ?_
        obtain ⟨r7, hX, hF⟩ := qs_pb_some hF
        refine qs_psi (va_runS (own := "QuakeServer") (As := [.int (a4)]) (rest := []) ⟨hx, hb, hml, hown, hg⟩ (c_Q_isInWorld l H.size (a4) r7 hX) (va_cwS 1 hg (qs_gS t_212 t_213 t_1 t_214) rfl rfl rfl (by decide +kernel) ⟨Nat.le_of_ble_eq_true rfl, Nat.le_of_ble_eq_true rfl⟩) ⟨qs_blind0, fun U hU hW => ⟨rfl, by rw [hU], hNs.warm hW⟩⟩ rfl rfl hl.1 rfl (lv_room (Nat.le_of_ble_eq_true rfl)) d_Q_wall_23 ⟨Nat.le_of_ble_eq_true rfl, Nat.le_of_ble_eq_true rfl⟩) hP hD hS hA (fun H locs hP hS => ?_)
        refine lv_if_ne (tgt := 39) hx hb d_Q_wall_26 (by decide) (fun c8 => ?_) (fun c8 => ?_)
        · have hF := qs_neg c8 hF
          refine lv_iload_n hx hb d_Q_wall_39 rfl (lv_at hl 1 rfl) ?_
          refine lv_iload_n hx hb d_Q_wall_40 rfl (lv_at hl 3 rfl) ?_
          refine lv_icmp_ge (tgt := 50) hx hb d_Q_wall_41 (by decide) (fun c9 => ?_) (fun c9 => ?_)
          · have hF := qs_pos c9 hF
            have h9 := Option.some.inj hF
            exact vx_throwS (text := "a wall ends where it begins, or before") (names := ["java/lang/RuntimeException", "java/lang/Exception"]) hx hb hl9 hown (by decide +kernel) (by decide +kernel) (hg _ t_215) (hg _ t_12) hs68 (ha_Q_65 hg hNs) hd_Q_65 hU hN hS (hl.1.trans hml.symm) d_Q_wall_50 d_Q_wall_53 d_Q_wall_54 d_Q_wall_56 d_Q_wall_59 (fun x h => (ht x h).elim) (Nat.le_of_ble_eq_true rfl) (Nat.le_of_ble_eq_true rfl) (Nat.le_of_ble_eq_true rfl) (Nat.le_of_ble_eq_true rfl) hlocks (fun t hvm hz hk => ⟨g, trivial, ⟨⟨h9.symm, by decide⟩, hP.kept (fun k q hq => hk q.1 (hP k q hq).lt), va_K.moved hvm hK, hD⟩, qs_F hS hz hk⟩) hS.2.2 (Nat.le_refl _) (Nat.le_refl _)
          · have hF := qs_neg c9 hF
            refine lv_iload_n hx hb d_Q_wall_44 rfl (lv_at hl 2 rfl) ?_
            refine lv_iload hx hb d_Q_wall_45 (lv_at hl 4 rfl) ?_
            refine lv_icmp_lt (tgt := 60) hx hb d_Q_wall_47 (by decide) (fun c10 => ?_) (fun c10 => ?_)
            · have hF := qs_pos c10 hF
              refine lv_aload_n hx hb d_Q_wall_60 rfl (lv_at hl 0 rfl) ?_
              refine va_get (D := (dC, dI)) (ci := 6) (v := .ref (h 2)) (C := R_Q) (T := T_Q) (N := 6) hx hb hg in_Q hown hK hP 0 rfl rfl 1 (by decide) (hg _ t_157) (fun _ h9 => h9) rfl d_Q_wall_61 ?_
              refine va_getN (D := (dC, dI)) (ci := 1) (v := .int (g 20 0)) (C := R_W) (T := T_W) (N := 3) hx hb hg in_W hown hK hP 2 rfl rfl 2 (by decide) (va_Nw.use rfl (nF_0 hNs)) (fun _ h9 => h9) rfl d_Q_wall_64 ?_
              refine lv_bipush (v := 6) hx hb d_Q_wall_67 (by decide) ?_
              refine lv_icmp_ne (tgt := 82) hx hb d_Q_wall_69 (by decide) (fun c11 => ?_) (fun c11 => ?_)
              · have hF := qs_neg c11 hF
                refine lv_aload_n hx hb d_Q_wall_82 rfl (lv_at hl 0 rfl) ?_
                refine va_get (D := (dC, dI)) (ci := 6) (v := .ref (h 2)) (C := R_Q) (T := T_Q) (N := 6) hx hb hg in_Q hown hK hP 0 rfl rfl 1 (by decide) (hg _ t_157) (fun _ h9 => h9) rfl d_Q_wall_83 ?_
                refine lv_iload_n hx hb d_Q_wall_86 rfl (lv_at hl 1 rfl) ?_
                refine lv_iload_n hx hb d_Q_wall_87 rfl (lv_at hl 2 rfl) ?_
                refine lv_iload_n hx hb d_Q_wall_88 rfl (lv_at hl 3 rfl) ?_
                refine lv_iload hx hb d_Q_wall_89 (lv_at hl 4 rfl) ?_
                obtain ⟨r12, u13, hX, hF⟩ := qs_bn_some hF
                refine qs_ci (Wd := qs_W h c) (isC := [0, 1, 2, 3, 4, 5, 6, 7, 8, 9, 10, 11, 12, 13, 14, 15, 16]) (va_runV (own := "QuakeServer") (C := "QuakeServer$Walls") (As := [.int (a1), .int (a2), .int (a3), .int (a4)]) (rest := []) ⟨hx, hb, hml, hown, hg⟩ (c_W_add l dC dI h c H.size g (a1) (a2) (a3) (a4) r12 u13 hX) (cwV 4 hg (qs_gV t_300 t_301 t_302 t_3 t_303) rfl rfl rfl (by decide +kernel) ⟨Nat.le_of_ble_eq_true rfl, Nat.le_of_ble_eq_true rfl⟩) ⟨qs_blind, va_recv hK hP (ci := 1) (q0 := 2) rfl rfl, fun U hU hW => ⟨rfl, by rw [hU], by rw [hU]; exact hP, va_K.moved hW.alike hK, hD.weaken (fun _ _ _ _ => trivial), hNs.warm hW⟩⟩ rfl rfl hl.1 rfl (lv_room (Nat.le_of_ble_eq_true rfl)) d_Q_wall_91 ⟨Nat.le_of_ble_eq_true rfl, Nat.le_of_ble_eq_true rfl⟩) rfl hP hD hS hA (fun H locs hP hD hS => ?_)
                have h9 := Option.some.inj hF
                refine vx_ret ?_
                refine W.widen (k := 1) (n := 6) (Nat.le_of_ble_eq_true rfl) (Nat.le_of_ble_eq_true rfl) ?_
                exact W.iret (v := r12) hx hb hr (fun t ht hW => ⟨⟨r12, u13, rfl, h9.symm, by rw [ht]; exact hP, va_K.moved hW.alike hK, hD⟩, hS.F ht⟩) hS.2.2 d_Q_wall_94
              · have hF := qs_pos c11 hF
                have h9 := Option.some.inj hF
                exact vx_throwS (text := "all walls are there") (names := ["java/lang/RuntimeException", "java/lang/Exception"]) hx hb hl9 hown (by decide +kernel) (by decide +kernel) (hg _ t_284) (hg _ t_13) hs76 (ha_Q_78 hg hNs) hd_Q_78 hU hN hS (hl.1.trans hml.symm) d_Q_wall_72 d_Q_wall_75 d_Q_wall_76 d_Q_wall_78 d_Q_wall_81 (fun x h => (ht x h).elim) (Nat.le_of_ble_eq_true rfl) (Nat.le_of_ble_eq_true rfl) (Nat.le_of_ble_eq_true rfl) (Nat.le_of_ble_eq_true rfl) hlocks (fun t hvm hz hk => ⟨g, trivial, ⟨⟨h9.symm, by decide⟩, hP.kept (fun k q hq => hk q.1 (hP k q hq).lt), va_K.moved hvm hK, hD⟩, qs_F hS hz hk⟩) hS.2.2 (Nat.le_refl _) (Nat.le_refl _)
            · have hF := qs_neg c10 hF
              have h9 := Option.some.inj hF
              exact vx_throwS (text := "a wall ends where it begins, or before") (names := ["java/lang/RuntimeException", "java/lang/Exception"]) hx hb hl9 hown (by decide +kernel) (by decide +kernel) (hg _ t_215) (hg _ t_12) hs68 (ha_Q_65 hg hNs) hd_Q_65 hU hN hS (hl.1.trans hml.symm) d_Q_wall_50 d_Q_wall_53 d_Q_wall_54 d_Q_wall_56 d_Q_wall_59 (fun x h => (ht x h).elim) (Nat.le_of_ble_eq_true rfl) (Nat.le_of_ble_eq_true rfl) (Nat.le_of_ble_eq_true rfl) (Nat.le_of_ble_eq_true rfl) hlocks (fun t hvm hz hk => ⟨g, trivial, ⟨⟨h9.symm, by decide⟩, hP.kept (fun k q hq => hk q.1 (hP k q hq).lt), va_K.moved hvm hK, hD⟩, qs_F hS hz hk⟩) hS.2.2 (Nat.le_refl _) (Nat.le_refl _)
        · have hF := qs_pos c8 hF
          have h9 := Option.some.inj hF
          exact vx_throwS (text := "a wall\'s side is not -1024 .. 1024") (names := ["java/lang/RuntimeException", "java/lang/Exception"]) hx hb hl9 hown (by decide +kernel) (by decide +kernel) (hg _ t_215) (hg _ t_12) hs63 (ha_Q_65 hg hNs) hd_Q_65 hU hN hS (hl.1.trans hml.symm) d_Q_wall_29 d_Q_wall_32 d_Q_wall_33 d_Q_wall_35 d_Q_wall_38 (fun x h => (ht x h).elim) (Nat.le_of_ble_eq_true rfl) (Nat.le_of_ble_eq_true rfl) (Nat.le_of_ble_eq_true rfl) (Nat.le_of_ble_eq_true rfl) hlocks (fun t hvm hz hk => ⟨g, trivial, ⟨⟨h9.symm, by decide⟩, hP.kept (fun k q hq => hk q.1 (hP k q hq).lt), va_K.moved hvm hK, hD⟩, qs_F hS hz hk⟩) hS.2.2 (Nat.le_refl _) (Nat.le_refl _)

theorem d_Q_instr_0 : decode b_Q_instr 0 = .ok (.iload_n 1, 1) := by decide +kernel
theorem d_Q_instr_1 : decode b_Q_instr 1 = .ok (.bipush 6, 2) := by decide +kernel
theorem d_Q_instr_3 : decode b_Q_instr 3 = .ok (.invokestatic 83, 3) := by decide +kernel
theorem d_Q_instr_6 : decode b_Q_instr 6 = .ok (.ifCond .eq 15, 3) := by decide +kernel
theorem d_Q_instr_9 : decode b_Q_instr 9 = .ok (.iload_n 2, 1) := by decide +kernel
theorem d_Q_instr_10 : decode b_Q_instr 10 = .ok (.iload_n 3, 1) := by decide +kernel
theorem d_Q_instr_11 : decode b_Q_instr 11 = .ok (.iload 4, 2) := by decide +kernel
theorem d_Q_instr_13 : decode b_Q_instr 13 = .ok (.iload 5, 2) := by decide +kernel
theorem d_Q_instr_15 : decode b_Q_instr 15 = .ok (.invokestatic 87, 3) := by decide +kernel
theorem d_Q_instr_18 : decode b_Q_instr 18 = .ok (.ifCond .ne 13, 3) := by decide +kernel
theorem d_Q_instr_21 : decode b_Q_instr 21 = .ok (.new 61, 3) := by decide +kernel
theorem d_Q_instr_24 : decode b_Q_instr 24 = .ok (.dup, 1) := by decide +kernel
theorem d_Q_instr_25 : decode b_Q_instr 25 = .ok (.ldc 91, 2) := by decide +kernel
theorem d_Q_instr_27 : decode b_Q_instr 27 = .ok (.invokespecial 65, 3) := by decide +kernel
theorem d_Q_instr_30 : decode b_Q_instr 30 = .ok (.athrow, 1) := by decide +kernel
theorem d_Q_instr_31 : decode b_Q_instr 31 = .ok (.aload_n 0, 1) := by decide +kernel
theorem d_Q_instr_32 : decode b_Q_instr 32 = .ok (.getfield 26, 3) := by decide +kernel
theorem d_Q_instr_35 : decode b_Q_instr 35 = .ok (.iload_n 1, 1) := by decide +kernel
theorem d_Q_instr_36 : decode b_Q_instr 36 = .ok (.invokevirtual 93, 3) := by decide +kernel
theorem d_Q_instr_39 : decode b_Q_instr 39 = .ok (.bipush 14, 2) := by decide +kernel
theorem d_Q_instr_41 : decode b_Q_instr 41 = .ok (.if_icmp .ne 13, 3) := by decide +kernel
theorem d_Q_instr_44 : decode b_Q_instr 44 = .ok (.new 74, 3) := by decide +kernel
theorem d_Q_instr_47 : decode b_Q_instr 47 = .ok (.dup, 1) := by decide +kernel
theorem d_Q_instr_48 : decode b_Q_instr 48 = .ok (.ldc 97, 2) := by decide +kernel
theorem d_Q_instr_50 : decode b_Q_instr 50 = .ok (.invokespecial 78, 3) := by decide +kernel
theorem d_Q_instr_53 : decode b_Q_instr 53 = .ok (.athrow, 1) := by decide +kernel
theorem d_Q_instr_54 : decode b_Q_instr 54 = .ok (.aload_n 0, 1) := by decide +kernel
theorem d_Q_instr_55 : decode b_Q_instr 55 = .ok (.getfield 26, 3) := by decide +kernel
theorem d_Q_instr_58 : decode b_Q_instr 58 = .ok (.iload_n 1, 1) := by decide +kernel
theorem d_Q_instr_59 : decode b_Q_instr 59 = .ok (.iload_n 2, 1) := by decide +kernel
theorem d_Q_instr_60 : decode b_Q_instr 60 = .ok (.iload_n 3, 1) := by decide +kernel
theorem d_Q_instr_61 : decode b_Q_instr 61 = .ok (.iload 4, 2) := by decide +kernel
theorem d_Q_instr_63 : decode b_Q_instr 63 = .ok (.iload 5, 2) := by decide +kernel
theorem d_Q_instr_65 : decode b_Q_instr 65 = .ok (.invokevirtual 99, 3) := by decide +kernel
theorem d_Q_instr_68 : decode b_Q_instr 68 = .ok (.ireturn, 1) := by decide +kernel
def f_Q_instr (g : Sg) (a1 : Int32) (a2 : Int32) (a3 : Int32) (a4 : Int32) (a5 : Int32) : Option ((String × Sg) ⊕ (Int32 × Sg)) := (qs_pb (f_Q_isBelow (a1) (6)) fun r1 => (if r1 = 0 then (some (.inl ("java/lang/IllegalArgumentException", g))) else (qs_pb (f_P_isSound (a2) (a3) (a4) (a5)) fun r3 => (if r3 = 0 then (some (.inl ("java/lang/IllegalArgumentException", g))) else (qs_bn (f_P_length g (a1)) fun r5 u6 => (if r5 = 14 then (some (.inl ("java/lang/IllegalStateException", u6))) else (qs_bn (f_P_add u6 (a1) (a2) (a3) (a4) (a5)) fun r8 u9 => (some (.inr (r8, u9))))))))))
set_option maxHeartbeats 4000000 in
set_option maxRecDepth 100000 in
theorem c_Q_instr (l : Launch) (hl9 : l.stackTraces = false) (dC : Nat → ClassId) (dI : Nat → Nat → Nat) (h : Nat → Nat) (c : Nat → ClassId) (sz : Nat) (sa91 : Nat) (sa97 : Nat) (g : Sg) (a1 : Int32) (a2 : Int32) (a3 : Int32) (a4 : Int32) (a5 : Int32) (r0 : ((String × Sg) ⊕ (Int32 × Sg))) (hF : f_Q_instr g a1 a2 a3 a4 a5 = some r0) : vx_Met l y_Q_instr (qs_ws y_Q_instr b_Q_instr 6 (some .int)) ({ frames := 6, cells := 1, slots := 6, locals := 82 } : Room) (va_Pc ([.ref (h 0), .int a1, .int a2, .int a3, .int a4, .int a5] : List Value) (fun U => U.heap.size = sz ∧ va_P (dC, dI) vwCl (qs_W h c g) U.heap ∧ va_K (dC, dI) vwCl (qs_T c) U ∧ va_D (fun _ => True) (qs_W h c g) ∧ qs_N U ∧ vx_Zq Bundle.tN "UNASSIGNED_STACK" Bundle.steD (va_A (qs_W h c g) sz) U U.heap ∧ vx_Zq Bundle.tN "SUPPRESSED_SENTINEL" Bundle.listD (va_A (qs_W h c g) sz) U U.heap ∧ vk_R R_Q 91 "no such instruction" sa91 U ∧ vk_R R_Q 97 "the function is full" sa97 U)) (va_Qi (fun (r : Int32) (u : Sg) => r0 = .inr (r, u)) (qs_at dC dI h c (va_A (qs_W h c g) sz)) (va_A (qs_W h c g) sz)) (vx_X (fun (_ : Sg) => True) (fun E u t => (r0 = .inl (E, u) ∧ E ∈ (["java/lang/IllegalArgumentException", "java/lang/IllegalStateException"] : List String)) ∧ qs_at dC dI h c (va_A (qs_W h c g) sz) u t) (va_A (qs_W h c g) sz)) 1 6 (va_A (qs_W h c g) sz) := by
  refine vx_ofW (cc := b_Q_instr) (maxL := 6) (ret := (some .int)) (by decide +kernel) rfl ?_
  intro p e s m args below meth cd s₁ B hml ht hv
  obtain ⟨rfl, hsz, hP, hK, hD0, hNs, hU, hN, hs91, hs97⟩ := hv
  have hx := B.exec
  have hb := B.bytes
  have hr := B.returns
  have hts := atoms_spec (ws := (qs_ws y_Q_instr b_Q_instr 6 (some .int))) B.pre
  have hg : ∀ w ∈ qs_gt, w.before _ s = true := fun w h => hts w (List.mem_cons_of_mem _ h)
  have hown : s.vm.findClass R_Q = some m.cls := findClass_of_methodNamed B.named
  have hlocks := B.notSynchronized
  subst hsz
  have hD := hD0.self (sz := s.heap.size)
  generalize hAe : va_A (qs_W h c g) s.heap.size = A at hD hU hN ⊢
  have hA : ∀ q : Nat, s.heap.size ≤ q → A q := fun q h => by rw [← hAe]; exact Or.inr h
  have hS : va_S A s.heap s.heap [] := va_S.rf
  have hl := lv_entry ([.ref (h 0), .int a1, .int a2, .int a3, .int a4, .int a5] : List Value) (n := 6) (Nat.le_of_ble_eq_true rfl)
  rw [lg_entry_eq]
  generalize (lg_sl ([.ref (h 0), .int a1, .int a2, .int a3, .int a4, .int a5] : List Value) ++ List.replicate (6 - (lg_sl ([.ref (h 0), .int a1, .int a2, .int a3, .int a4, .int a5] : List Value)).length) Slot.unset).toArray = ls at hl ⊢
  have hl : lv_has ls 6 [(0, .ref (h 0)), (1, .int (a1)), (2, .int (a2)), (3, .int (a3)), (4, .int (a4)), (5, .int (a5))] := hl
  unfold f_Q_instr at hF
  obtain ⟨H, hHe⟩ : ∃ H, H = s.heap := ⟨_, rfl⟩
  obtain ⟨locs, hLe⟩ : ∃ L : List Loc, L = [] := ⟨_, rfl⟩
  rw [← hHe] at hP ⊢
  rw [← hLe]
  have hS : va_S A s.heap H locs := by rw [hHe, hLe]; exact hS
  refine lv_iload_n hx hb d_Q_instr_0 rfl (lv_at hl 1 rfl) ?_
  refine lv_bipush (v := 6) hx hb d_Q_instr_1 (by decide) ?_
  obtain ⟨r1, hX, hF⟩ := qs_pb_some hF
  refine qs_psi (va_runS (own := "QuakeServer") (As := [.int (a1), .int (6)]) (rest := []) ⟨hx, hb, hml, hown, hg⟩ (c_Q_isBelow l H.size (a1) (6) r1 hX) (va_cwS 2 hg (qs_gS t_311 t_312 t_1 t_313) rfl rfl rfl (by decide +kernel) ⟨Nat.le_of_ble_eq_true rfl, Nat.le_of_ble_eq_true rfl⟩) ⟨qs_blind0, fun U hU hW => ⟨rfl, by rw [hU], hNs.warm hW⟩⟩ rfl rfl hl.1 rfl (lv_room (Nat.le_of_ble_eq_true rfl)) d_Q_instr_3 ⟨Nat.le_of_ble_eq_true rfl, Nat.le_of_ble_eq_true rfl⟩) hP hD hS hA (fun H locs hP hS => ?_)
  refine lv_if_eq (tgt := 21) hx hb d_Q_instr_6 (by decide) (fun c2 => ?_) (fun c2 => ?_)
  · have hF := qs_pos c2 hF
    have h9 := Option.some.inj hF
    exact vx_throwS (text := "no such instruction") (names := ["java/lang/RuntimeException", "java/lang/Exception"]) hx hb hl9 hown (by decide +kernel) (by decide +kernel) (hg _ t_215) (hg _ t_12) hs91 (ha_Q_65 hg hNs) hd_Q_65 hU hN hS (hl.1.trans hml.symm) d_Q_instr_21 d_Q_instr_24 d_Q_instr_25 d_Q_instr_27 d_Q_instr_30 (fun x h => (ht x h).elim) (Nat.le_of_ble_eq_true rfl) (Nat.le_of_ble_eq_true rfl) (Nat.le_of_ble_eq_true rfl) (Nat.le_of_ble_eq_true rfl) hlocks (fun t hvm hz hk => ⟨g, trivial, ⟨⟨h9.symm, by decide⟩, hP.kept (fun k q hq => hk q.1 (hP k q hq).lt), va_K.moved hvm hK, hD⟩, qs_F hS hz hk⟩) hS.2.2 (Nat.le_refl _) (Nat.le_refl _)
  · have hF := qs_neg c2 hF
    refine lv_iload_n hx hb d_Q_instr_9 rfl (lv_at hl 2 rfl) ?_
    refine lv_iload_n hx hb d_Q_instr_10 rfl (lv_at hl 3 rfl) ?_
    refine lv_iload hx hb d_Q_instr_11 (lv_at hl 4 rfl) ?_
    refine lv_iload hx hb d_Q_instr_13 (lv_at hl 5 rfl) ?_
    obtain ⟨r3, hX, hF⟩ := qs_pb_some hF
    refine qs_psi (va_runS (own := "QuakeServer") (As := [.int (a2), .int (a3), .int (a4), .int (a5)]) (rest := []) ⟨hx, hb, hml, hown, hg⟩ (c_P_isSound l H.size (a2) (a3) (a4) (a5) r3 hX) (va_cwS 4 hg (qs_gS t_314 t_315 t_4 t_316) rfl rfl rfl (by decide +kernel) ⟨Nat.le_of_ble_eq_true rfl, Nat.le_of_ble_eq_true rfl⟩) ⟨qs_blind0, fun U hU hW => ⟨rfl, by rw [hU], hNs.warm hW⟩⟩ rfl rfl hl.1 rfl (lv_room (Nat.le_of_ble_eq_true rfl)) d_Q_instr_15 ⟨Nat.le_of_ble_eq_true rfl, Nat.le_of_ble_eq_true rfl⟩) hP hD hS hA (fun H locs hP hS => ?_)
    refine lv_if_ne (tgt := 31) hx hb d_Q_instr_18 (by decide) (fun c4 => ?_) (fun c4 => ?_)
    · have hF := qs_neg c4 hF
      refine lv_aload_n hx hb d_Q_instr_31 rfl (lv_at hl 0 rfl) ?_
      refine va_get (D := (dC, dI)) (ci := 6) (v := .ref (h 3)) (C := R_Q) (T := T_Q) (N := 6) hx hb hg in_Q hown hK hP 0 rfl rfl 2 (by decide) (hg _ t_158) (fun _ h9 => h9) rfl d_Q_instr_32 ?_
      refine lv_iload_n hx hb d_Q_instr_35 rfl (lv_at hl 1 rfl) ?_
      obtain ⟨r5, u6, hX, hF⟩ := qs_bn_some hF
      refine qs_ci (Wd := qs_W h c) (isC := [0, 1, 2, 3, 4, 5, 6, 7, 8, 9, 10, 11, 12, 13, 14, 15, 16]) (va_runV (own := "QuakeServer") (C := "QuakeServer$Program") (As := [.int (a1)]) (rest := []) ⟨hx, hb, hml, hown, hg⟩ (c_P_length l dC dI h c H.size g (a1) r5 u6 hX) (cwV 1 hg (qs_gV t_319 t_320 t_321 t_4 t_322) rfl rfl rfl (by decide +kernel) ⟨Nat.le_of_ble_eq_true rfl, Nat.le_of_ble_eq_true rfl⟩) ⟨qs_blind, va_recv hK hP (ci := 2) (q0 := 3) rfl rfl, fun U hU hW => ⟨rfl, by rw [hU], by rw [hU]; exact hP, va_K.moved hW.alike hK, hD.weaken (fun _ _ _ _ => trivial), hNs.warm hW⟩⟩ rfl rfl hl.1 rfl (lv_room (Nat.le_of_ble_eq_true rfl)) d_Q_instr_36 ⟨Nat.le_of_ble_eq_true rfl, Nat.le_of_ble_eq_true rfl⟩) rfl hP hD hS hA (fun H locs hP hD hS => ?_)
      refine lv_bipush (v := 14) hx hb d_Q_instr_39 (by decide) ?_
      refine lv_icmp_ne (tgt := 54) hx hb d_Q_instr_41 (by decide) (fun c7 => ?_) (fun c7 => ?_)
      · have hF := qs_neg c7 hF
        refine lv_aload_n hx hb d_Q_instr_54 rfl (lv_at hl 0 rfl) ?_
        refine va_get (D := (dC, dI)) (ci := 6) (v := .ref (h 3)) (C := R_Q) (T := T_Q) (N := 6) hx hb hg in_Q hown hK hP 0 rfl rfl 2 (by decide) (hg _ t_158) (fun _ h9 => h9) rfl d_Q_instr_55 ?_
        refine lv_iload_n hx hb d_Q_instr_58 rfl (lv_at hl 1 rfl) ?_
        refine lv_iload_n hx hb d_Q_instr_59 rfl (lv_at hl 2 rfl) ?_
        refine lv_iload_n hx hb d_Q_instr_60 rfl (lv_at hl 3 rfl) ?_
        refine lv_iload hx hb d_Q_instr_61 (lv_at hl 4 rfl) ?_
        refine lv_iload hx hb d_Q_instr_63 (lv_at hl 5 rfl) ?_
        obtain ⟨r8, u9, hX, hF⟩ := qs_bn_some hF
        refine qs_ci (Wd := qs_W h c) (isC := [0, 1, 2, 3, 4, 5, 6, 7, 8, 9, 10, 11, 12, 13, 14, 15, 16]) (va_runV (own := "QuakeServer") (C := "QuakeServer$Program") (As := [.int (a1), .int (a2), .int (a3), .int (a4), .int (a5)]) (rest := []) ⟨hx, hb, hml, hown, hg⟩ (c_P_add l dC dI h c H.size u6 (a1) (a2) (a3) (a4) (a5) r8 u9 hX) (cwV 5 hg (qs_gV t_324 t_325 t_326 t_4 t_327) rfl rfl rfl (by decide +kernel) ⟨Nat.le_of_ble_eq_true rfl, Nat.le_of_ble_eq_true rfl⟩) ⟨qs_blind, va_recv hK hP (ci := 2) (q0 := 3) rfl rfl, fun U hU hW => ⟨rfl, by rw [hU], by rw [hU]; exact hP, va_K.moved hW.alike hK, hD.weaken (fun _ _ _ _ => trivial), hNs.warm hW⟩⟩ rfl rfl hl.1 rfl (lv_room (Nat.le_of_ble_eq_true rfl)) d_Q_instr_65 ⟨Nat.le_of_ble_eq_true rfl, Nat.le_of_ble_eq_true rfl⟩) rfl hP hD hS hA (fun H locs hP hD hS => ?_)
        have h9 := Option.some.inj hF
        refine vx_ret ?_
        refine W.widen (k := 1) (n := 6) (Nat.le_of_ble_eq_true rfl) (Nat.le_of_ble_eq_true rfl) ?_
        exact W.iret (v := r8) hx hb hr (fun t ht hW => ⟨⟨r8, u9, rfl, h9.symm, by rw [ht]; exact hP, va_K.moved hW.alike hK, hD⟩, hS.F ht⟩) hS.2.2 d_Q_instr_68
      · have hF := qs_pos c7 hF
        have h9 := Option.some.inj hF
        exact vx_throwS (text := "the function is full") (names := ["java/lang/RuntimeException", "java/lang/Exception"]) hx hb hl9 hown (by decide +kernel) (by decide +kernel) (hg _ t_284) (hg _ t_13) hs97 (ha_Q_78 hg hNs) hd_Q_78 hU hN hS (hl.1.trans hml.symm) d_Q_instr_44 d_Q_instr_47 d_Q_instr_48 d_Q_instr_50 d_Q_instr_53 (fun x h => (ht x h).elim) (Nat.le_of_ble_eq_true rfl) (Nat.le_of_ble_eq_true rfl) (Nat.le_of_ble_eq_true rfl) (Nat.le_of_ble_eq_true rfl) hlocks (fun t hvm hz hk => ⟨u6, trivial, ⟨⟨h9.symm, by decide⟩, hP.kept (fun k q hq => hk q.1 (hP k q hq).lt), va_K.moved hvm hK, hD⟩, qs_F hS hz hk⟩) hS.2.2 (Nat.le_refl _) (Nat.le_refl _)
    · have hF := qs_pos c4 hF
      have h9 := Option.some.inj hF
      exact vx_throwS (text := "no such instruction") (names := ["java/lang/RuntimeException", "java/lang/Exception"]) hx hb hl9 hown (by decide +kernel) (by decide +kernel) (hg _ t_215) (hg _ t_12) hs91 (ha_Q_65 hg hNs) hd_Q_65 hU hN hS (hl.1.trans hml.symm) d_Q_instr_21 d_Q_instr_24 d_Q_instr_25 d_Q_instr_27 d_Q_instr_30 (fun x h => (ht x h).elim) (Nat.le_of_ble_eq_true rfl) (Nat.le_of_ble_eq_true rfl) (Nat.le_of_ble_eq_true rfl) (Nat.le_of_ble_eq_true rfl) hlocks (fun t hvm hz hk => ⟨g, trivial, ⟨⟨h9.symm, by decide⟩, hP.kept (fun k q hq => hk q.1 (hP k q hq).lt), va_K.moved hvm hK, hD⟩, qs_F hS hz hk⟩) hS.2.2 (Nat.le_refl _) (Nat.le_refl _)

theorem d_Q_spawn_0 : decode b_Q_spawn 0 = .ok (.dload_n 1, 1) := by decide +kernel
theorem d_Q_spawn_1 : decode b_Q_spawn 1 = .ok (.invokestatic 102, 3) := by decide +kernel
theorem d_Q_spawn_4 : decode b_Q_spawn 4 = .ok (.ifCond .eq 18, 3) := by decide +kernel
theorem d_Q_spawn_7 : decode b_Q_spawn 7 = .ok (.dload_n 3, 1) := by decide +kernel
theorem d_Q_spawn_8 : decode b_Q_spawn 8 = .ok (.invokestatic 102, 3) := by decide +kernel
theorem d_Q_spawn_11 : decode b_Q_spawn 11 = .ok (.ifCond .eq 11, 3) := by decide +kernel
theorem d_Q_spawn_14 : decode b_Q_spawn 14 = .ok (.dload 5, 2) := by decide +kernel
theorem d_Q_spawn_16 : decode b_Q_spawn 16 = .ok (.invokestatic 102, 3) := by decide +kernel
theorem d_Q_spawn_19 : decode b_Q_spawn 19 = .ok (.ifCond .ne 13, 3) := by decide +kernel
theorem d_Q_spawn_22 : decode b_Q_spawn 22 = .ok (.new 61, 3) := by decide +kernel
theorem d_Q_spawn_25 : decode b_Q_spawn 25 = .ok (.dup, 1) := by decide +kernel
theorem d_Q_spawn_26 : decode b_Q_spawn 26 = .ok (.ldc 106, 2) := by decide +kernel
theorem d_Q_spawn_28 : decode b_Q_spawn 28 = .ok (.invokespecial 65, 3) := by decide +kernel
theorem d_Q_spawn_31 : decode b_Q_spawn 31 = .ok (.athrow, 1) := by decide +kernel
theorem d_Q_spawn_32 : decode b_Q_spawn 32 = .ok (.aload_n 0, 1) := by decide +kernel
theorem d_Q_spawn_33 : decode b_Q_spawn 33 = .ok (.getfield 12, 3) := by decide +kernel
theorem d_Q_spawn_36 : decode b_Q_spawn 36 = .ok (.invokevirtual 108, 3) := by decide +kernel
theorem d_Q_spawn_39 : decode b_Q_spawn 39 = .ok (.istore 7, 2) := by decide +kernel
theorem d_Q_spawn_41 : decode b_Q_spawn 41 = .ok (.iload 7, 2) := by decide +kernel
theorem d_Q_spawn_43 : decode b_Q_spawn 43 = .ok (.iconst (-1), 1) := by decide +kernel
theorem d_Q_spawn_44 : decode b_Q_spawn 44 = .ok (.if_icmp .ne 13, 3) := by decide +kernel
theorem d_Q_spawn_47 : decode b_Q_spawn 47 = .ok (.new 74, 3) := by decide +kernel
theorem d_Q_spawn_50 : decode b_Q_spawn 50 = .ok (.dup, 1) := by decide +kernel
theorem d_Q_spawn_51 : decode b_Q_spawn 51 = .ok (.ldc 112, 2) := by decide +kernel
theorem d_Q_spawn_53 : decode b_Q_spawn 53 = .ok (.invokespecial 78, 3) := by decide +kernel
theorem d_Q_spawn_56 : decode b_Q_spawn 56 = .ok (.athrow, 1) := by decide +kernel
theorem d_Q_spawn_57 : decode b_Q_spawn 57 = .ok (.aload_n 0, 1) := by decide +kernel
theorem d_Q_spawn_58 : decode b_Q_spawn 58 = .ok (.getfield 12, 3) := by decide +kernel
theorem d_Q_spawn_61 : decode b_Q_spawn 61 = .ok (.iload 7, 2) := by decide +kernel
theorem d_Q_spawn_63 : decode b_Q_spawn 63 = .ok (.iconst 0, 1) := by decide +kernel
theorem d_Q_spawn_64 : decode b_Q_spawn 64 = .ok (.dload_n 1, 1) := by decide +kernel
theorem d_Q_spawn_65 : decode b_Q_spawn 65 = .ok (.invokestatic 114, 3) := by decide +kernel
theorem d_Q_spawn_68 : decode b_Q_spawn 68 = .ok (.invokevirtual 118, 3) := by decide +kernel
theorem d_Q_spawn_71 : decode b_Q_spawn 71 = .ok (.aload_n 0, 1) := by decide +kernel
theorem d_Q_spawn_72 : decode b_Q_spawn 72 = .ok (.getfield 12, 3) := by decide +kernel
theorem d_Q_spawn_75 : decode b_Q_spawn 75 = .ok (.iload 7, 2) := by decide +kernel
theorem d_Q_spawn_77 : decode b_Q_spawn 77 = .ok (.iconst 1, 1) := by decide +kernel
theorem d_Q_spawn_78 : decode b_Q_spawn 78 = .ok (.dload_n 3, 1) := by decide +kernel
theorem d_Q_spawn_79 : decode b_Q_spawn 79 = .ok (.invokestatic 114, 3) := by decide +kernel
theorem d_Q_spawn_82 : decode b_Q_spawn 82 = .ok (.invokevirtual 118, 3) := by decide +kernel
theorem d_Q_spawn_85 : decode b_Q_spawn 85 = .ok (.aload_n 0, 1) := by decide +kernel
theorem d_Q_spawn_86 : decode b_Q_spawn 86 = .ok (.getfield 12, 3) := by decide +kernel
theorem d_Q_spawn_89 : decode b_Q_spawn 89 = .ok (.iload 7, 2) := by decide +kernel
theorem d_Q_spawn_91 : decode b_Q_spawn 91 = .ok (.iconst 4, 1) := by decide +kernel
theorem d_Q_spawn_92 : decode b_Q_spawn 92 = .ok (.dload 5, 2) := by decide +kernel
theorem d_Q_spawn_94 : decode b_Q_spawn 94 = .ok (.invokestatic 114, 3) := by decide +kernel
theorem d_Q_spawn_97 : decode b_Q_spawn 97 = .ok (.invokevirtual 118, 3) := by decide +kernel
theorem d_Q_spawn_100 : decode b_Q_spawn 100 = .ok (.iload 7, 2) := by decide +kernel
theorem d_Q_spawn_102 : decode b_Q_spawn 102 = .ok (.ireturn, 1) := by decide +kernel
def f_Q_spawn (g : Sg) (a1 : UInt64) (a2 : UInt64) (a3 : UInt64) : Option ((String × Sg) ⊕ (Int32 × Sg)) := (qs_pb (f_Q_isNumber (a1)) fun r1 => (if r1 = 0 then (some (.inl ("java/lang/IllegalArgumentException", g))) else (qs_pb (f_Q_isNumber (a2)) fun r3 => (if r3 = 0 then (some (.inl ("java/lang/IllegalArgumentException", g))) else (qs_pb (f_Q_isNumber (a3)) fun r5 => (if r5 = 0 then (some (.inl ("java/lang/IllegalArgumentException", g))) else (qs_bn (f_E_create g ) fun r7 u8 => (if r7 = (-1) then (some (.inl ("java/lang/IllegalStateException", u8))) else (qs_pb (f_Q_eighthsOf (a1)) fun r10 => (qs_bn (f_E_put u8 (r7) (0) (r10)) fun _ u12 => (qs_pb (f_Q_eighthsOf (a2)) fun r13 => (qs_bn (f_E_put u12 (r7) (1) (r13)) fun _ u15 => (qs_pb (f_Q_eighthsOf (a3)) fun r16 => (qs_bn (f_E_put u15 (r7) (4) (r16)) fun _ u18 => (some (.inr (r7, u18)))))))))))))))))
set_option maxHeartbeats 4000000 in
set_option maxRecDepth 100000 in
theorem c_Q_spawn (l : Launch) (hl9 : l.stackTraces = false) (dC : Nat → ClassId) (dI : Nat → Nat → Nat) (h : Nat → Nat) (c : Nat → ClassId) (sz : Nat) (sa106 : Nat) (sa112 : Nat) (g : Sg) (a1 : UInt64) (a2 : UInt64) (a3 : UInt64) (r0 : ((String × Sg) ⊕ (Int32 × Sg))) (hF : f_Q_spawn g a1 a2 a3 = some r0) : vx_Met l y_Q_spawn (qs_ws y_Q_spawn b_Q_spawn 8 (some .int)) ({ frames := 6, cells := 1, slots := 6, locals := 82 } : Room) (va_Pc ([.ref (h 0), .double a1, .double a2, .double a3] : List Value) (fun U => U.heap.size = sz ∧ va_P (dC, dI) vwCl (qs_W h c g) U.heap ∧ va_K (dC, dI) vwCl (qs_T c) U ∧ va_D (fun _ => True) (qs_W h c g) ∧ qs_N U ∧ vx_Zq Bundle.tN "UNASSIGNED_STACK" Bundle.steD (va_A (qs_W h c g) sz) U U.heap ∧ vx_Zq Bundle.tN "SUPPRESSED_SENTINEL" Bundle.listD (va_A (qs_W h c g) sz) U U.heap ∧ vk_R R_Q 106 "a number is out of range" sa106 U ∧ vk_R R_Q 112 "all entities are there" sa112 U)) (va_Qi (fun (r : Int32) (u : Sg) => r0 = .inr (r, u)) (qs_at dC dI h c (va_A (qs_W h c g) sz)) (va_A (qs_W h c g) sz)) (vx_X (fun (_ : Sg) => True) (fun E u t => (r0 = .inl (E, u) ∧ E ∈ (["java/lang/IllegalArgumentException", "java/lang/IllegalStateException"] : List String)) ∧ qs_at dC dI h c (va_A (qs_W h c g) sz) u t) (va_A (qs_W h c g) sz)) 1 6 (va_A (qs_W h c g) sz) := by
  refine vx_ofW (cc := b_Q_spawn) (maxL := 8) (ret := (some .int)) (by decide +kernel) rfl ?_
  intro p e s m args below meth cd s₁ B hml ht hv
  obtain ⟨rfl, hsz, hP, hK, hD0, hNs, hU, hN, hs106, hs112⟩ := hv
  have hx := B.exec
  have hb := B.bytes
  have hr := B.returns
  have hts := atoms_spec (ws := (qs_ws y_Q_spawn b_Q_spawn 8 (some .int))) B.pre
  have hg : ∀ w ∈ qs_gt, w.before _ s = true := fun w h => hts w (List.mem_cons_of_mem _ h)
  have hown : s.vm.findClass R_Q = some m.cls := findClass_of_methodNamed B.named
  have hlocks := B.notSynchronized
  subst hsz
  have hD := hD0.self (sz := s.heap.size)
  generalize hAe : va_A (qs_W h c g) s.heap.size = A at hD hU hN ⊢
  have hA : ∀ q : Nat, s.heap.size ≤ q → A q := fun q h => by rw [← hAe]; exact Or.inr h
  have hS : va_S A s.heap s.heap [] := va_S.rf
  have hl := lv_entry ([.ref (h 0), .double a1, .double a2, .double a3] : List Value) (n := 8) (Nat.le_of_ble_eq_true rfl)
  rw [lg_entry_eq]
  generalize (lg_sl ([.ref (h 0), .double a1, .double a2, .double a3] : List Value) ++ List.replicate (8 - (lg_sl ([.ref (h 0), .double a1, .double a2, .double a3] : List Value)).length) Slot.unset).toArray = ls at hl ⊢
  have hl : lv_has ls 8 [(0, .ref (h 0)), (1, .double (a1)), (3, .double (a2)), (5, .double (a3))] := hl
  unfold f_Q_spawn at hF
  obtain ⟨H, hHe⟩ : ∃ H, H = s.heap := ⟨_, rfl⟩
  obtain ⟨locs, hLe⟩ : ∃ L : List Loc, L = [] := ⟨_, rfl⟩
  rw [← hHe] at hP ⊢
  rw [← hLe]
  have hS : va_S A s.heap H locs := by rw [hHe, hLe]; exact hS
  refine lv_dload_n hx hb d_Q_spawn_0 rfl (lv_at hl 1 rfl) ?_
  obtain ⟨r1, hX, hF⟩ := qs_pb_some hF
  refine qs_psi (va_runS (own := "QuakeServer") (As := [.double (a1)]) (rest := []) ⟨hx, hb, hml, hown, hg⟩ (c_Q_isNumber l H.size (a1) r1 hX) (va_cwS 1 hg (qs_gS t_339 t_340 t_1 t_341) rfl rfl rfl (by decide +kernel) ⟨Nat.le_of_ble_eq_true rfl, Nat.le_of_ble_eq_true rfl⟩) ⟨qs_blind0, fun U hU hW => ⟨rfl, by rw [hU], hNs.warm hW⟩⟩ rfl rfl hl.1 rfl (lv_room (Nat.le_of_ble_eq_true rfl)) d_Q_spawn_1 ⟨Nat.le_of_ble_eq_true rfl, Nat.le_of_ble_eq_true rfl⟩) hP hD hS hA (fun H locs hP hS => ?_)
  refine lv_if_eq (tgt := 22) hx hb d_Q_spawn_4 (by decide) (fun c2 => ?_) (fun c2 => ?_)
  · have hF := qs_pos c2 hF
    have h9 := Option.some.inj hF
    exact vx_throwS (text := "a number is out of range") (names := ["java/lang/RuntimeException", "java/lang/Exception"]) hx hb hl9 hown (by decide +kernel) (by decide +kernel) (hg _ t_215) (hg _ t_12) hs106 (ha_Q_65 hg hNs) hd_Q_65 hU hN hS (hl.1.trans hml.symm) d_Q_spawn_22 d_Q_spawn_25 d_Q_spawn_26 d_Q_spawn_28 d_Q_spawn_31 (fun x h => (ht x h).elim) (Nat.le_of_ble_eq_true rfl) (Nat.le_of_ble_eq_true rfl) (Nat.le_of_ble_eq_true rfl) (Nat.le_of_ble_eq_true rfl) hlocks (fun t hvm hz hk => ⟨g, trivial, ⟨⟨h9.symm, by decide⟩, hP.kept (fun k q hq => hk q.1 (hP k q hq).lt), va_K.moved hvm hK, hD⟩, qs_F hS hz hk⟩) hS.2.2 (Nat.le_refl _) (Nat.le_refl _)
  · have hF := qs_neg c2 hF
    refine lv_dload_n hx hb d_Q_spawn_7 rfl (lv_at hl 2 rfl) ?_
    obtain ⟨r3, hX, hF⟩ := qs_pb_some hF
    refine qs_psi (va_runS (own := "QuakeServer") (As := [.double (a2)]) (rest := []) ⟨hx, hb, hml, hown, hg⟩ (c_Q_isNumber l H.size (a2) r3 hX) (va_cwS 1 hg (qs_gS t_339 t_340 t_1 t_341) rfl rfl rfl (by decide +kernel) ⟨Nat.le_of_ble_eq_true rfl, Nat.le_of_ble_eq_true rfl⟩) ⟨qs_blind0, fun U hU hW => ⟨rfl, by rw [hU], hNs.warm hW⟩⟩ rfl rfl hl.1 rfl (lv_room (Nat.le_of_ble_eq_true rfl)) d_Q_spawn_8 ⟨Nat.le_of_ble_eq_true rfl, Nat.le_of_ble_eq_true rfl⟩) hP hD hS hA (fun H locs hP hS => ?_)
    refine lv_if_eq (tgt := 22) hx hb d_Q_spawn_11 (by decide) (fun c4 => ?_) (fun c4 => ?_)
    · have hF := qs_pos c4 hF
      have h9 := Option.some.inj hF
      exact vx_throwS (text := "a number is out of range") (names := ["java/lang/RuntimeException", "java/lang/Exception"]) hx hb hl9 hown (by decide +kernel) (by decide +kernel) (hg _ t_215) (hg _ t_12) hs106 (ha_Q_65 hg hNs) hd_Q_65 hU hN hS (hl.1.trans hml.symm) d_Q_spawn_22 d_Q_spawn_25 d_Q_spawn_26 d_Q_spawn_28 d_Q_spawn_31 (fun x h => (ht x h).elim) (Nat.le_of_ble_eq_true rfl) (Nat.le_of_ble_eq_true rfl) (Nat.le_of_ble_eq_true rfl) (Nat.le_of_ble_eq_true rfl) hlocks (fun t hvm hz hk => ⟨g, trivial, ⟨⟨h9.symm, by decide⟩, hP.kept (fun k q hq => hk q.1 (hP k q hq).lt), va_K.moved hvm hK, hD⟩, qs_F hS hz hk⟩) hS.2.2 (Nat.le_refl _) (Nat.le_refl _)
    · have hF := qs_neg c4 hF
      refine lv_dload hx hb d_Q_spawn_14 (lv_at hl 3 rfl) ?_
      obtain ⟨r5, hX, hF⟩ := qs_pb_some hF
      refine qs_psi (va_runS (own := "QuakeServer") (As := [.double (a3)]) (rest := []) ⟨hx, hb, hml, hown, hg⟩ (c_Q_isNumber l H.size (a3) r5 hX) (va_cwS 1 hg (qs_gS t_339 t_340 t_1 t_341) rfl rfl rfl (by decide +kernel) ⟨Nat.le_of_ble_eq_true rfl, Nat.le_of_ble_eq_true rfl⟩) ⟨qs_blind0, fun U hU hW => ⟨rfl, by rw [hU], hNs.warm hW⟩⟩ rfl rfl hl.1 rfl (lv_room (Nat.le_of_ble_eq_true rfl)) d_Q_spawn_16 ⟨Nat.le_of_ble_eq_true rfl, Nat.le_of_ble_eq_true rfl⟩) hP hD hS hA (fun H locs hP hS => ?_)
      refine lv_if_ne (tgt := 32) hx hb d_Q_spawn_19 (by decide) (fun c6 => ?_) (fun c6 => ?_)
      · have hF := qs_neg c6 hF
        refine lv_aload_n hx hb d_Q_spawn_32 rfl (lv_at hl 0 rfl) ?_
        refine va_get (D := (dC, dI)) (ci := 6) (v := .ref (h 1)) (C := R_Q) (T := T_Q) (N := 6) hx hb hg in_Q hown hK hP 0 rfl rfl 0 (by decide) (hg _ t_156) (fun _ h9 => h9) rfl d_Q_spawn_33 ?_
        obtain ⟨r7, u8, hX, hF⟩ := qs_bn_some hF
        refine qs_ci (Wd := qs_W h c) (isC := [0, 1, 2, 3, 4, 5, 6, 7, 8, 9, 10, 11, 12, 13, 14, 15, 16]) (va_runV (own := "QuakeServer") (C := "QuakeServer$Entities") (As := []) (rest := []) ⟨hx, hb, hml, hown, hg⟩ (c_E_create l dC dI h c H.size g  r7 u8 hX) (cwV 0 hg (qs_gV t_345 t_346 t_347 t_2 t_348) rfl rfl rfl (by decide +kernel) ⟨Nat.le_of_ble_eq_true rfl, Nat.le_of_ble_eq_true rfl⟩) ⟨qs_blind, va_recv hK hP (ci := 0) (q0 := 1) rfl rfl, fun U hU hW => ⟨rfl, by rw [hU], by rw [hU]; exact hP, va_K.moved hW.alike hK, hD.weaken (fun _ _ _ _ => trivial), hNs.warm hW⟩⟩ rfl rfl hl.1 rfl (lv_room (Nat.le_of_ble_eq_true rfl)) d_Q_spawn_36 ⟨Nat.le_of_ble_eq_true rfl, Nat.le_of_ble_eq_true rfl⟩) rfl hP hD hS hA (fun H locs hP hD hS => ?_)
        refine lv_istore (lv' := [(7, .int (r7)), (0, .ref (h 0)), (1, .double (a1)), (3, .double (a2)), (5, .double (a3))]) hx hb d_Q_spawn_39 hl (by decide) rfl (fun ls hl => ?_)
        refine lv_iload hx hb d_Q_spawn_41 (lv_at hl 0 rfl) ?_
        refine lv_iconst (v := (-1)) hx hb d_Q_spawn_43 (by decide) ?_
        refine lv_icmp_ne (tgt := 57) hx hb d_Q_spawn_44 (by decide) (fun c9 => ?_) (fun c9 => ?_)
        · have hF := qs_neg c9 hF
          refine lv_aload_n hx hb d_Q_spawn_57 rfl (lv_at hl 1 rfl) ?_
          refine va_get (D := (dC, dI)) (ci := 6) (v := .ref (h 1)) (C := R_Q) (T := T_Q) (N := 6) hx hb hg in_Q hown hK hP 0 rfl rfl 0 (by decide) (hg _ t_156) (fun _ h9 => h9) rfl d_Q_spawn_58 ?_
          refine lv_iload hx hb d_Q_spawn_61 (lv_at hl 0 rfl) ?_
          refine lv_iconst (v := 0) hx hb d_Q_spawn_63 (by decide) ?_
          refine lv_dload_n hx hb d_Q_spawn_64 rfl (lv_at hl 2 rfl) ?_
          obtain ⟨r10, hX, hF⟩ := qs_pb_some hF
          refine qs_psi (va_runS (own := "QuakeServer") (As := [.double (a1)]) (rest := [.int (0), .int (r7), .ref (h 1)]) ⟨hx, hb, hml, hown, hg⟩ (c_Q_eighthsOf l H.size (a1) r10 hX) (va_cwS 1 hg (qs_gS t_350 t_351 t_1 t_352) rfl rfl rfl (by decide +kernel) ⟨Nat.le_of_ble_eq_true rfl, Nat.le_of_ble_eq_true rfl⟩) ⟨qs_blind0, fun U hU hW => ⟨rfl, by rw [hU], hNs.warm hW⟩⟩ rfl rfl hl.1 rfl (lv_room (Nat.le_of_ble_eq_true rfl)) d_Q_spawn_65 ⟨Nat.le_of_ble_eq_true rfl, Nat.le_of_ble_eq_true rfl⟩) hP hD hS hA (fun H locs hP hS => ?_)
          obtain ⟨r11, u12, hX, hF⟩ := qs_bn_some hF
          refine qs_cv (Wd := qs_W h c) (isC := [0, 1, 2, 3, 4, 5, 6, 7, 8, 9, 10, 11, 12, 13, 14, 15, 16]) (va_runV (own := "QuakeServer") (C := "QuakeServer$Entities") (As := [.int (r7), .int (0), .int (r10)]) (rest := []) ⟨hx, hb, hml, hown, hg⟩ (c_E_put l dC dI h c H.size u8 (r7) (0) (r10)  u12 hX) (cwV 3 hg (qs_gV t_354 t_355 t_356 t_2 t_357) rfl rfl rfl (by decide +kernel) ⟨Nat.le_of_ble_eq_true rfl, Nat.le_of_ble_eq_true rfl⟩) ⟨qs_blind, va_recv hK hP (ci := 0) (q0 := 1) rfl rfl, fun U hU hW => ⟨rfl, by rw [hU], by rw [hU]; exact hP, va_K.moved hW.alike hK, hD.weaken (fun _ _ _ _ => trivial), hNs.warm hW⟩⟩ rfl rfl hl.1 rfl (lv_room (Nat.le_of_ble_eq_true rfl)) d_Q_spawn_68 ⟨Nat.le_of_ble_eq_true rfl, Nat.le_of_ble_eq_true rfl⟩) rfl hP hD hS hA (fun H locs hP hD hS => ?_)
          refine lv_aload_n hx hb d_Q_spawn_71 rfl (lv_at hl 1 rfl) ?_
          refine va_get (D := (dC, dI)) (ci := 6) (v := .ref (h 1)) (C := R_Q) (T := T_Q) (N := 6) hx hb hg in_Q hown hK hP 0 rfl rfl 0 (by decide) (hg _ t_156) (fun _ h9 => h9) rfl d_Q_spawn_72 ?_
          refine lv_iload hx hb d_Q_spawn_75 (lv_at hl 0 rfl) ?_
          refine lv_iconst (v := 1) hx hb d_Q_spawn_77 (by decide) ?_
          refine lv_dload_n hx hb d_Q_spawn_78 rfl (lv_at hl 3 rfl) ?_
          obtain ⟨r13, hX, hF⟩ := qs_pb_some hF
          refine qs_psi (va_runS (own := "QuakeServer") (As := [.double (a2)]) (rest := [.int (1), .int (r7), .ref (h 1)]) ⟨hx, hb, hml, hown, hg⟩ (c_Q_eighthsOf l H.size (a2) r13 hX) (va_cwS 1 hg (qs_gS t_350 t_351 t_1 t_352) rfl rfl rfl (by decide +kernel) ⟨Nat.le_of_ble_eq_true rfl, Nat.le_of_ble_eq_true rfl⟩) ⟨qs_blind0, fun U hU hW => ⟨rfl, by rw [hU], hNs.warm hW⟩⟩ rfl rfl hl.1 rfl (lv_room (Nat.le_of_ble_eq_true rfl)) d_Q_spawn_79 ⟨Nat.le_of_ble_eq_true rfl, Nat.le_of_ble_eq_true rfl⟩) hP hD hS hA (fun H locs hP hS => ?_)
          obtain ⟨r14, u15, hX, hF⟩ := qs_bn_some hF
          refine qs_cv (Wd := qs_W h c) (isC := [0, 1, 2, 3, 4, 5, 6, 7, 8, 9, 10, 11, 12, 13, 14, 15, 16]) (va_runV (own := "QuakeServer") (C := "QuakeServer$Entities") (As := [.int (r7), .int (1), .int (r13)]) (rest := []) ⟨hx, hb, hml, hown, hg⟩ (c_E_put l dC dI h c H.size u12 (r7) (1) (r13)  u15 hX) (cwV 3 hg (qs_gV t_354 t_355 t_356 t_2 t_357) rfl rfl rfl (by decide +kernel) ⟨Nat.le_of_ble_eq_true rfl, Nat.le_of_ble_eq_true rfl⟩) ⟨qs_blind, va_recv hK hP (ci := 0) (q0 := 1) rfl rfl, fun U hU hW => ⟨rfl, by rw [hU], by rw [hU]; exact hP, va_K.moved hW.alike hK, hD.weaken (fun _ _ _ _ => trivial), hNs.warm hW⟩⟩ rfl rfl hl.1 rfl (lv_room (Nat.le_of_ble_eq_true rfl)) d_Q_spawn_82 ⟨Nat.le_of_ble_eq_true rfl, Nat.le_of_ble_eq_true rfl⟩) rfl hP hD hS hA (fun H locs hP hD hS => ?_)
          refine lv_aload_n hx hb d_Q_spawn_85 rfl (lv_at hl 1 rfl) ?_
          refine va_get (D := (dC, dI)) (ci := 6) (v := .ref (h 1)) (C := R_Q) (T := T_Q) (N := 6) hx hb hg in_Q hown hK hP 0 rfl rfl 0 (by decide) (hg _ t_156) (fun _ h9 => h9) rfl d_Q_spawn_86 ?_
          refine lv_iload hx hb d_Q_spawn_89 (lv_at hl 0 rfl) ?_
          refine lv_iconst (v := 4) hx hb d_Q_spawn_91 (by decide) ?_
          refine lv_dload hx hb d_Q_spawn_92 (lv_at hl 4 rfl) ?_
          obtain ⟨r16, hX, hF⟩ := qs_pb_some hF
          refine qs_psi (va_runS (own := "QuakeServer") (As := [.double (a3)]) (rest := [.int (4), .int (r7), .ref (h 1)]) ⟨hx, hb, hml, hown, hg⟩ (c_Q_eighthsOf l H.size (a3) r16 hX) (va_cwS 1 hg (qs_gS t_350 t_351 t_1 t_352) rfl rfl rfl (by decide +kernel) ⟨Nat.le_of_ble_eq_true rfl, Nat.le_of_ble_eq_true rfl⟩) ⟨qs_blind0, fun U hU hW => ⟨rfl, by rw [hU], hNs.warm hW⟩⟩ rfl rfl hl.1 rfl (lv_room (Nat.le_of_ble_eq_true rfl)) d_Q_spawn_94 ⟨Nat.le_of_ble_eq_true rfl, Nat.le_of_ble_eq_true rfl⟩) hP hD hS hA (fun H locs hP hS => ?_)
          obtain ⟨r17, u18, hX, hF⟩ := qs_bn_some hF
          refine qs_cv (Wd := qs_W h c) (isC := [0, 1, 2, 3, 4, 5, 6, 7, 8, 9, 10, 11, 12, 13, 14, 15, 16]) (va_runV (own := "QuakeServer") (C := "QuakeServer$Entities") (As := [.int (r7), .int (4), .int (r16)]) (rest := []) ⟨hx, hb, hml, hown, hg⟩ (c_E_put l dC dI h c H.size u15 (r7) (4) (r16)  u18 hX) (cwV 3 hg (qs_gV t_354 t_355 t_356 t_2 t_357) rfl rfl rfl (by decide +kernel) ⟨Nat.le_of_ble_eq_true rfl, Nat.le_of_ble_eq_true rfl⟩) ⟨qs_blind, va_recv hK hP (ci := 0) (q0 := 1) rfl rfl, fun U hU hW => ⟨rfl, by rw [hU], by rw [hU]; exact hP, va_K.moved hW.alike hK, hD.weaken (fun _ _ _ _ => trivial), hNs.warm hW⟩⟩ rfl rfl hl.1 rfl (lv_room (Nat.le_of_ble_eq_true rfl)) d_Q_spawn_97 ⟨Nat.le_of_ble_eq_true rfl, Nat.le_of_ble_eq_true rfl⟩) rfl hP hD hS hA (fun H locs hP hD hS => ?_)
          refine lv_iload hx hb d_Q_spawn_100 (lv_at hl 0 rfl) ?_
          have h9 := Option.some.inj hF
          refine vx_ret ?_
          refine W.widen (k := 1) (n := 6) (Nat.le_of_ble_eq_true rfl) (Nat.le_of_ble_eq_true rfl) ?_
          exact W.iret (v := r7) hx hb hr (fun t ht hW => ⟨⟨r7, u18, rfl, h9.symm, by rw [ht]; exact hP, va_K.moved hW.alike hK, hD⟩, hS.F ht⟩) hS.2.2 d_Q_spawn_102
        · have hF := qs_pos c9 hF
          have h9 := Option.some.inj hF
          exact vx_throwS (text := "all entities are there") (names := ["java/lang/RuntimeException", "java/lang/Exception"]) hx hb hl9 hown (by decide +kernel) (by decide +kernel) (hg _ t_284) (hg _ t_13) hs112 (ha_Q_78 hg hNs) hd_Q_78 hU hN hS (hl.1.trans hml.symm) d_Q_spawn_47 d_Q_spawn_50 d_Q_spawn_51 d_Q_spawn_53 d_Q_spawn_56 (fun x h => (ht x h).elim) (Nat.le_of_ble_eq_true rfl) (Nat.le_of_ble_eq_true rfl) (Nat.le_of_ble_eq_true rfl) (Nat.le_of_ble_eq_true rfl) hlocks (fun t hvm hz hk => ⟨u8, trivial, ⟨⟨h9.symm, by decide⟩, hP.kept (fun k q hq => hk q.1 (hP k q hq).lt), va_K.moved hvm hK, hD⟩, qs_F hS hz hk⟩) hS.2.2 (Nat.le_refl _) (Nat.le_refl _)
      · have hF := qs_pos c6 hF
        have h9 := Option.some.inj hF
        exact vx_throwS (text := "a number is out of range") (names := ["java/lang/RuntimeException", "java/lang/Exception"]) hx hb hl9 hown (by decide +kernel) (by decide +kernel) (hg _ t_215) (hg _ t_12) hs106 (ha_Q_65 hg hNs) hd_Q_65 hU hN hS (hl.1.trans hml.symm) d_Q_spawn_22 d_Q_spawn_25 d_Q_spawn_26 d_Q_spawn_28 d_Q_spawn_31 (fun x h => (ht x h).elim) (Nat.le_of_ble_eq_true rfl) (Nat.le_of_ble_eq_true rfl) (Nat.le_of_ble_eq_true rfl) (Nat.le_of_ble_eq_true rfl) hlocks (fun t hvm hz hk => ⟨g, trivial, ⟨⟨h9.symm, by decide⟩, hP.kept (fun k q hq => hk q.1 (hP k q hq).lt), va_K.moved hvm hK, hD⟩, qs_F hS hz hk⟩) hS.2.2 (Nat.le_refl _) (Nat.le_refl _)
end
section
theorem d_Q_setGlobal_0 : decode b_Q_setGlobal 0 = .ok (.iload_n 1, 1) := by decide +kernel
theorem d_Q_setGlobal_1 : decode b_Q_setGlobal 1 = .ok (.bipush 24, 2) := by decide +kernel
theorem d_Q_setGlobal_3 : decode b_Q_setGlobal 3 = .ok (.invokestatic 83, 3) := by decide +kernel
theorem d_Q_setGlobal_6 : decode b_Q_setGlobal 6 = .ok (.ifCond .eq 15, 3) := by decide +kernel
theorem d_Q_setGlobal_9 : decode b_Q_setGlobal 9 = .ok (.iload_n 2, 1) := by decide +kernel
theorem d_Q_setGlobal_10 : decode b_Q_setGlobal 10 = .ok (.ldc 146, 2) := by decide +kernel
theorem d_Q_setGlobal_12 : decode b_Q_setGlobal 12 = .ok (.if_icmp .lt 9, 3) := by decide +kernel
theorem d_Q_setGlobal_15 : decode b_Q_setGlobal 15 = .ok (.iload_n 2, 1) := by decide +kernel
theorem d_Q_setGlobal_16 : decode b_Q_setGlobal 16 = .ok (.ldc 147, 2) := by decide +kernel
theorem d_Q_setGlobal_18 : decode b_Q_setGlobal 18 = .ok (.if_icmp .le 13, 3) := by decide +kernel
theorem d_Q_setGlobal_21 : decode b_Q_setGlobal 21 = .ok (.new 61, 3) := by decide +kernel
theorem d_Q_setGlobal_24 : decode b_Q_setGlobal 24 = .ok (.dup, 1) := by decide +kernel
theorem d_Q_setGlobal_25 : decode b_Q_setGlobal 25 = .ok (.ldc 148, 2) := by decide +kernel
theorem d_Q_setGlobal_27 : decode b_Q_setGlobal 27 = .ok (.invokespecial 65, 3) := by decide +kernel
theorem d_Q_setGlobal_30 : decode b_Q_setGlobal 30 = .ok (.athrow, 1) := by decide +kernel
theorem d_Q_setGlobal_31 : decode b_Q_setGlobal 31 = .ok (.aload_n 0, 1) := by decide +kernel
theorem d_Q_setGlobal_32 : decode b_Q_setGlobal 32 = .ok (.getfield 35, 3) := by decide +kernel
theorem d_Q_setGlobal_35 : decode b_Q_setGlobal 35 = .ok (.getfield 150, 3) := by decide +kernel
theorem d_Q_setGlobal_38 : decode b_Q_setGlobal 38 = .ok (.iload_n 1, 1) := by decide +kernel
theorem d_Q_setGlobal_39 : decode b_Q_setGlobal 39 = .ok (.iaload, 1) := by decide +kernel
theorem d_Q_setGlobal_40 : decode b_Q_setGlobal 40 = .ok (.istore_n 3, 1) := by decide +kernel
theorem d_Q_setGlobal_41 : decode b_Q_setGlobal 41 = .ok (.aload_n 0, 1) := by decide +kernel
theorem d_Q_setGlobal_42 : decode b_Q_setGlobal 42 = .ok (.getfield 35, 3) := by decide +kernel
theorem d_Q_setGlobal_45 : decode b_Q_setGlobal 45 = .ok (.getfield 150, 3) := by decide +kernel
theorem d_Q_setGlobal_48 : decode b_Q_setGlobal 48 = .ok (.iload_n 1, 1) := by decide +kernel
theorem d_Q_setGlobal_49 : decode b_Q_setGlobal 49 = .ok (.iload_n 2, 1) := by decide +kernel
theorem d_Q_setGlobal_50 : decode b_Q_setGlobal 50 = .ok (.iastore, 1) := by decide +kernel
theorem d_Q_setGlobal_51 : decode b_Q_setGlobal 51 = .ok (.iload_n 3, 1) := by decide +kernel
theorem d_Q_setGlobal_52 : decode b_Q_setGlobal 52 = .ok (.ireturn, 1) := by decide +kernel
def f_Q_setGlobal (g : Sg) (a1 : Int32) (a2 : Int32) : Option ((String × Sg) ⊕ (Int32 × Sg)) := (qs_pb (f_Q_isBelow (a1) (24)) fun r1 => (if r1 = 0 then (some (.inl ("java/lang/IllegalArgumentException", g))) else (if a2 < (-131072) then (some (.inl ("java/lang/IllegalArgumentException", g))) else (if a2 ≤ 131072 then (qs_in (a1) 24 (qs_in (a1) 24 (qs_st (qs_a g 13 a1.toNatClampNeg (a2)) fun u7 => (some (.inr (g 13 a1.toNatClampNeg, u7)))))) else (some (.inl ("java/lang/IllegalArgumentException", g)))))))
set_option maxHeartbeats 4000000 in
set_option maxRecDepth 100000 in
theorem c_Q_setGlobal (l : Launch) (hl9 : l.stackTraces = false) (dC : Nat → ClassId) (dI : Nat → Nat → Nat) (h : Nat → Nat) (c : Nat → ClassId) (sz : Nat) (sa148 : Nat) (g : Sg) (a1 : Int32) (a2 : Int32) (r0 : ((String × Sg) ⊕ (Int32 × Sg))) (hF : f_Q_setGlobal g a1 a2 = some r0) : vx_Met l y_Q_setGlobal (qs_ws y_Q_setGlobal b_Q_setGlobal 4 (some .int)) ({ frames := 6, cells := 1, slots := 6, locals := 82 } : Room) (va_Pc ([.ref (h 0), .int a1, .int a2] : List Value) (fun U => U.heap.size = sz ∧ va_P (dC, dI) vwCl (qs_W h c g) U.heap ∧ va_K (dC, dI) vwCl (qs_T c) U ∧ va_D (fun _ => True) (qs_W h c g) ∧ qs_N U ∧ vx_Zq Bundle.tN "UNASSIGNED_STACK" Bundle.steD (va_A (qs_W h c g) sz) U U.heap ∧ vx_Zq Bundle.tN "SUPPRESSED_SENTINEL" Bundle.listD (va_A (qs_W h c g) sz) U U.heap ∧ vk_R R_Q 148 "no such global or number" sa148 U)) (va_Qi (fun (r : Int32) (u : Sg) => r0 = .inr (r, u)) (qs_at dC dI h c (va_A (qs_W h c g) sz)) (va_A (qs_W h c g) sz)) (vx_X (fun (_ : Sg) => True) (fun E u t => (r0 = .inl (E, u) ∧ E ∈ (["java/lang/IllegalArgumentException"] : List String)) ∧ qs_at dC dI h c (va_A (qs_W h c g) sz) u t) (va_A (qs_W h c g) sz)) 1 6 (va_A (qs_W h c g) sz) := by
  refine vx_ofW (cc := b_Q_setGlobal) (maxL := 4) (ret := (some .int)) (by decide +kernel) rfl ?_
  intro p e s m args below meth cd s₁ B hml ht hv
  obtain ⟨rfl, hsz, hP, hK, hD0, hNs, hU, hN, hs148⟩ := hv
  have hx := B.exec
  have hb := B.bytes
  have hr := B.returns
  have hts := atoms_spec (ws := (qs_ws y_Q_setGlobal b_Q_setGlobal 4 (some .int))) B.pre
  have hg : ∀ w ∈ qs_gt, w.before _ s = true := fun w h => hts w (List.mem_cons_of_mem _ h)
  have hown : s.vm.findClass R_Q = some m.cls := findClass_of_methodNamed B.named
  have hlocks := B.notSynchronized
  subst hsz
  have hD := hD0.self (sz := s.heap.size)
  generalize hAe : va_A (qs_W h c g) s.heap.size = A at hD hU hN ⊢
  have hA : ∀ q : Nat, s.heap.size ≤ q → A q := fun q h => by rw [← hAe]; exact Or.inr h
  have hS : va_S A s.heap s.heap [] := va_S.rf
  have hl := lv_entry ([.ref (h 0), .int a1, .int a2] : List Value) (n := 4) (Nat.le_of_ble_eq_true rfl)
  rw [lg_entry_eq]
  generalize (lg_sl ([.ref (h 0), .int a1, .int a2] : List Value) ++ List.replicate (4 - (lg_sl ([.ref (h 0), .int a1, .int a2] : List Value)).length) Slot.unset).toArray = ls at hl ⊢
  have hl : lv_has ls 4 [(0, .ref (h 0)), (1, .int (a1)), (2, .int (a2))] := hl
  unfold f_Q_setGlobal at hF
  obtain ⟨H, hHe⟩ : ∃ H, H = s.heap := ⟨_, rfl⟩
  obtain ⟨locs, hLe⟩ : ∃ L : List Loc, L = [] := ⟨_, rfl⟩
  rw [← hHe] at hP ⊢
  rw [← hLe]
  have hS : va_S A s.heap H locs := by rw [hHe, hLe]; exact hS
  refine lv_iload_n hx hb d_Q_setGlobal_0 rfl (lv_at hl 1 rfl) ?_
  refine lv_bipush (v := 24) hx hb d_Q_setGlobal_1 (by decide) ?_
  obtain ⟨r1, hX, hF⟩ := qs_pb_some hF
  refine qs_psi (va_runS (own := "QuakeServer") (As := [.int (a1), .int (24)]) (rest := []) ⟨hx, hb, hml, hown, hg⟩ (c_Q_isBelow l H.size (a1) (24) r1 hX) (va_cwS 2 hg (qs_gS t_311 t_312 t_1 t_313) rfl rfl rfl (by decide +kernel) ⟨Nat.le_of_ble_eq_true rfl, Nat.le_of_ble_eq_true rfl⟩) ⟨qs_blind0, fun U hU hW => ⟨rfl, by rw [hU], hNs.warm hW⟩⟩ rfl rfl hl.1 rfl (lv_room (Nat.le_of_ble_eq_true rfl)) d_Q_setGlobal_3 ⟨Nat.le_of_ble_eq_true rfl, Nat.le_of_ble_eq_true rfl⟩) hP hD hS hA (fun H locs hP hS => ?_)
  refine lv_if_eq (tgt := 21) hx hb d_Q_setGlobal_6 (by decide) (fun c2 => ?_) (fun c2 => ?_)
  · have hF := qs_pos c2 hF
    have h9 := Option.some.inj hF
    exact vx_throwS (text := "no such global or number") (names := ["java/lang/RuntimeException", "java/lang/Exception"]) hx hb hl9 hown (by decide +kernel) (by decide +kernel) (hg _ t_215) (hg _ t_12) hs148 (ha_Q_65 hg hNs) hd_Q_65 hU hN hS (hl.1.trans hml.symm) d_Q_setGlobal_21 d_Q_setGlobal_24 d_Q_setGlobal_25 d_Q_setGlobal_27 d_Q_setGlobal_30 (fun x h => (ht x h).elim) (Nat.le_of_ble_eq_true rfl) (Nat.le_of_ble_eq_true rfl) (Nat.le_of_ble_eq_true rfl) (Nat.le_of_ble_eq_true rfl) hlocks (fun t hvm hz hk => ⟨g, trivial, ⟨⟨h9.symm, by decide⟩, hP.kept (fun k q hq => hk q.1 (hP k q hq).lt), va_K.moved hvm hK, hD⟩, qs_F hS hz hk⟩) hS.2.2 (Nat.le_refl _) (Nat.le_refl _)
  · have hF := qs_neg c2 hF
    refine lv_iload_n hx hb d_Q_setGlobal_9 rfl (lv_at hl 2 rfl) ?_
    refine lv_ldc (v := (-131072)) hx hb hown (hg _ t_415) d_Q_setGlobal_10 ?_
    refine lv_icmp_lt (tgt := 21) hx hb d_Q_setGlobal_12 (by decide) (fun c3 => ?_) (fun c3 => ?_)
    · have hF := qs_pos c3 hF
      have h9 := Option.some.inj hF
      exact vx_throwS (text := "no such global or number") (names := ["java/lang/RuntimeException", "java/lang/Exception"]) hx hb hl9 hown (by decide +kernel) (by decide +kernel) (hg _ t_215) (hg _ t_12) hs148 (ha_Q_65 hg hNs) hd_Q_65 hU hN hS (hl.1.trans hml.symm) d_Q_setGlobal_21 d_Q_setGlobal_24 d_Q_setGlobal_25 d_Q_setGlobal_27 d_Q_setGlobal_30 (fun x h => (ht x h).elim) (Nat.le_of_ble_eq_true rfl) (Nat.le_of_ble_eq_true rfl) (Nat.le_of_ble_eq_true rfl) (Nat.le_of_ble_eq_true rfl) hlocks (fun t hvm hz hk => ⟨g, trivial, ⟨⟨h9.symm, by decide⟩, hP.kept (fun k q hq => hk q.1 (hP k q hq).lt), va_K.moved hvm hK, hD⟩, qs_F hS hz hk⟩) hS.2.2 (Nat.le_refl _) (Nat.le_refl _)
    · have hF := qs_neg c3 hF
      refine lv_iload_n hx hb d_Q_setGlobal_15 rfl (lv_at hl 2 rfl) ?_
      refine lv_ldc (v := 131072) hx hb hown (hg _ t_416) d_Q_setGlobal_16 ?_
      refine lv_icmp_le (tgt := 31) hx hb d_Q_setGlobal_18 (by decide) (fun c4 => ?_) (fun c4 => ?_)
      · have hF := qs_pos c4 hF
        refine lv_aload_n hx hb d_Q_setGlobal_31 rfl (lv_at hl 0 rfl) ?_
        refine va_get (D := (dC, dI)) (ci := 6) (v := .ref (h 4)) (C := R_Q) (T := T_Q) (N := 6) hx hb hg in_Q hown hK hP 0 rfl rfl 3 (by decide) (hg _ t_159) (fun _ h9 => h9) rfl d_Q_setGlobal_32 ?_
        refine va_getN (D := (dC, dI)) (ci := 3) (v := .ref (h 13)) (C := R_M) (T := T_M) (N := 11) hx hb hg in_M hown hK hP 4 rfl rfl 2 (by decide) (va_Nw.use rfl (nF_3 hNs)) (fun _ h9 => h9) rfl d_Q_setGlobal_35 ?_
        refine lv_iload_n hx hb d_Q_setGlobal_38 rfl (lv_at hl 1 rfl) ?_
        obtain ⟨c5, hF⟩ := qs_in_some hF
        refine va_iald hx hb hK hP 13 6 rfl rfl c5 d_Q_setGlobal_39 ?_
        refine lv_istore_n (lv' := [(3, .int (g 13 a1.toNatClampNeg)), (0, .ref (h 0)), (1, .int (a1)), (2, .int (a2))]) hx hb d_Q_setGlobal_40 rfl hl (by decide) rfl (fun ls hl => ?_)
        refine lv_aload_n hx hb d_Q_setGlobal_41 rfl (lv_at hl 1 rfl) ?_
        refine va_get (D := (dC, dI)) (ci := 6) (v := .ref (h 4)) (C := R_Q) (T := T_Q) (N := 6) hx hb hg in_Q hown hK hP 0 rfl rfl 3 (by decide) (hg _ t_159) (fun _ h9 => h9) rfl d_Q_setGlobal_42 ?_
        refine va_getN (D := (dC, dI)) (ci := 3) (v := .ref (h 13)) (C := R_M) (T := T_M) (N := 11) hx hb hg in_M hown hK hP 4 rfl rfl 2 (by decide) (va_Nw.use rfl (nF_3 hNs)) (fun _ h9 => h9) rfl d_Q_setGlobal_45 ?_
        refine lv_iload_n hx hb d_Q_setGlobal_48 rfl (lv_at hl 2 rfl) ?_
        refine lv_iload_n hx hb d_Q_setGlobal_49 rfl (lv_at hl 3 rfl) ?_
        obtain ⟨c6, hF⟩ := qs_in_some hF
        refine va_iast hx hb hK hP hD hS 13 6 rfl rfl c6 d_Q_setGlobal_50 (fun H locs hP hD hS => ?_)
        obtain ⟨u7, hu7, hF⟩ := qs_st_some hF
        have hP : va_P (dC, dI) vwCl (qs_W h c u7) H := by rw [hu7]; exact hP
        have hD : va_D A (qs_W h c u7) := by rw [hu7]; exact hD
        clear hu7
        refine lv_iload_n hx hb d_Q_setGlobal_51 rfl (lv_at hl 0 rfl) ?_
        have h9 := Option.some.inj hF
        refine vx_ret ?_
        refine W.widen (k := 1) (n := 6) (Nat.le_of_ble_eq_true rfl) (Nat.le_of_ble_eq_true rfl) ?_
        exact W.iret (v := g 13 a1.toNatClampNeg) hx hb hr (fun t ht hW => ⟨⟨(g 13 a1.toNatClampNeg), u7, rfl, h9.symm, by rw [ht]; exact hP, va_K.moved hW.alike hK, hD⟩, hS.F ht⟩) hS.2.2 d_Q_setGlobal_52
      · have hF := qs_neg c4 hF
        have h9 := Option.some.inj hF
        exact vx_throwS (text := "no such global or number") (names := ["java/lang/RuntimeException", "java/lang/Exception"]) hx hb hl9 hown (by decide +kernel) (by decide +kernel) (hg _ t_215) (hg _ t_12) hs148 (ha_Q_65 hg hNs) hd_Q_65 hU hN hS (hl.1.trans hml.symm) d_Q_setGlobal_21 d_Q_setGlobal_24 d_Q_setGlobal_25 d_Q_setGlobal_27 d_Q_setGlobal_30 (fun x h => (ht x h).elim) (Nat.le_of_ble_eq_true rfl) (Nat.le_of_ble_eq_true rfl) (Nat.le_of_ble_eq_true rfl) (Nat.le_of_ble_eq_true rfl) hlocks (fun t hvm hz hk => ⟨g, trivial, ⟨⟨h9.symm, by decide⟩, hP.kept (fun k q hq => hk q.1 (hP k q hq).lt), va_K.moved hvm hK, hD⟩, qs_F hS hz hk⟩) hS.2.2 (Nat.le_refl _) (Nat.le_refl _)

theorem d_Q_global_0 : decode b_Q_global 0 = .ok (.iload_n 1, 1) := by decide +kernel
theorem d_Q_global_1 : decode b_Q_global 1 = .ok (.bipush 24, 2) := by decide +kernel
theorem d_Q_global_3 : decode b_Q_global 3 = .ok (.invokestatic 83, 3) := by decide +kernel
theorem d_Q_global_6 : decode b_Q_global 6 = .ok (.ifCond .ne 13, 3) := by decide +kernel
theorem d_Q_global_9 : decode b_Q_global 9 = .ok (.new 61, 3) := by decide +kernel
theorem d_Q_global_12 : decode b_Q_global 12 = .ok (.dup, 1) := by decide +kernel
theorem d_Q_global_13 : decode b_Q_global 13 = .ok (.ldc 154, 2) := by decide +kernel
theorem d_Q_global_15 : decode b_Q_global 15 = .ok (.invokespecial 65, 3) := by decide +kernel
theorem d_Q_global_18 : decode b_Q_global 18 = .ok (.athrow, 1) := by decide +kernel
theorem d_Q_global_19 : decode b_Q_global 19 = .ok (.aload_n 0, 1) := by decide +kernel
theorem d_Q_global_20 : decode b_Q_global 20 = .ok (.getfield 35, 3) := by decide +kernel
theorem d_Q_global_23 : decode b_Q_global 23 = .ok (.getfield 150, 3) := by decide +kernel
theorem d_Q_global_26 : decode b_Q_global 26 = .ok (.iload_n 1, 1) := by decide +kernel
theorem d_Q_global_27 : decode b_Q_global 27 = .ok (.iaload, 1) := by decide +kernel
theorem d_Q_global_28 : decode b_Q_global 28 = .ok (.ireturn, 1) := by decide +kernel
def f_Q_global (g : Sg) (a1 : Int32) : Option ((String × Sg) ⊕ (Int32 × Sg)) := (qs_pb (f_Q_isBelow (a1) (24)) fun r1 => (if r1 = 0 then (some (.inl ("java/lang/IllegalArgumentException", g))) else (qs_in (a1) 24 (some (.inr (g 13 a1.toNatClampNeg, g))))))
set_option maxHeartbeats 4000000 in
set_option maxRecDepth 100000 in
theorem c_Q_global (l : Launch) (hl9 : l.stackTraces = false) (dC : Nat → ClassId) (dI : Nat → Nat → Nat) (h : Nat → Nat) (c : Nat → ClassId) (sz : Nat) (sa154 : Nat) (g : Sg) (a1 : Int32) (r0 : ((String × Sg) ⊕ (Int32 × Sg))) (hF : f_Q_global g a1 = some r0) : vx_Met l y_Q_global (qs_ws y_Q_global b_Q_global 2 (some .int)) ({ frames := 6, cells := 1, slots := 6, locals := 82 } : Room) (va_Pc ([.ref (h 0), .int a1] : List Value) (fun U => U.heap.size = sz ∧ va_P (dC, dI) vwCl (qs_W h c g) U.heap ∧ va_K (dC, dI) vwCl (qs_T c) U ∧ va_D (fun _ => True) (qs_W h c g) ∧ qs_N U ∧ vx_Zq Bundle.tN "UNASSIGNED_STACK" Bundle.steD (va_A (qs_W h c g) sz) U U.heap ∧ vx_Zq Bundle.tN "SUPPRESSED_SENTINEL" Bundle.listD (va_A (qs_W h c g) sz) U U.heap ∧ vk_R R_Q 154 "no such global" sa154 U)) (va_Qi (fun (r : Int32) (u : Sg) => r0 = .inr (r, u)) (qs_at dC dI h c (va_A (qs_W h c g) sz)) (va_A (qs_W h c g) sz)) (vx_X (fun (_ : Sg) => True) (fun E u t => (r0 = .inl (E, u) ∧ E ∈ (["java/lang/IllegalArgumentException"] : List String)) ∧ qs_at dC dI h c (va_A (qs_W h c g) sz) u t) (va_A (qs_W h c g) sz)) 1 6 (va_A (qs_W h c g) sz) := by
  refine vx_ofW (cc := b_Q_global) (maxL := 2) (ret := (some .int)) (by decide +kernel) rfl ?_
  intro p e s m args below meth cd s₁ B hml ht hv
  obtain ⟨rfl, hsz, hP, hK, hD0, hNs, hU, hN, hs154⟩ := hv
  have hx := B.exec
  have hb := B.bytes
  have hr := B.returns
  have hts := atoms_spec (ws := (qs_ws y_Q_global b_Q_global 2 (some .int))) B.pre
  have hg : ∀ w ∈ qs_gt, w.before _ s = true := fun w h => hts w (List.mem_cons_of_mem _ h)
  have hown : s.vm.findClass R_Q = some m.cls := findClass_of_methodNamed B.named
  have hlocks := B.notSynchronized
  subst hsz
  have hD := hD0.self (sz := s.heap.size)
  generalize hAe : va_A (qs_W h c g) s.heap.size = A at hD hU hN ⊢
  have hA : ∀ q : Nat, s.heap.size ≤ q → A q := fun q h => by rw [← hAe]; exact Or.inr h
  have hS : va_S A s.heap s.heap [] := va_S.rf
  have hl := lv_entry ([.ref (h 0), .int a1] : List Value) (n := 2) (Nat.le_of_ble_eq_true rfl)
  rw [lg_entry_eq]
  generalize (lg_sl ([.ref (h 0), .int a1] : List Value) ++ List.replicate (2 - (lg_sl ([.ref (h 0), .int a1] : List Value)).length) Slot.unset).toArray = ls at hl ⊢
  have hl : lv_has ls 2 [(0, .ref (h 0)), (1, .int (a1))] := hl
  unfold f_Q_global at hF
  obtain ⟨H, hHe⟩ : ∃ H, H = s.heap := ⟨_, rfl⟩
  obtain ⟨locs, hLe⟩ : ∃ L : List Loc, L = [] := ⟨_, rfl⟩
  rw [← hHe] at hP ⊢
  rw [← hLe]
  have hS : va_S A s.heap H locs := by rw [hHe, hLe]; exact hS
  refine lv_iload_n hx hb d_Q_global_0 rfl (lv_at hl 1 rfl) ?_
  refine lv_bipush (v := 24) hx hb d_Q_global_1 (by decide) ?_
  obtain ⟨r1, hX, hF⟩ := qs_pb_some hF
  refine qs_psi (va_runS (own := "QuakeServer") (As := [.int (a1), .int (24)]) (rest := []) ⟨hx, hb, hml, hown, hg⟩ (c_Q_isBelow l H.size (a1) (24) r1 hX) (va_cwS 2 hg (qs_gS t_311 t_312 t_1 t_313) rfl rfl rfl (by decide +kernel) ⟨Nat.le_of_ble_eq_true rfl, Nat.le_of_ble_eq_true rfl⟩) ⟨qs_blind0, fun U hU hW => ⟨rfl, by rw [hU], hNs.warm hW⟩⟩ rfl rfl hl.1 rfl (lv_room (Nat.le_of_ble_eq_true rfl)) d_Q_global_3 ⟨Nat.le_of_ble_eq_true rfl, Nat.le_of_ble_eq_true rfl⟩) hP hD hS hA (fun H locs hP hS => ?_)
  refine lv_if_ne (tgt := 19) hx hb d_Q_global_6 (by decide) (fun c2 => ?_) (fun c2 => ?_)
  · have hF := qs_neg c2 hF
    refine lv_aload_n hx hb d_Q_global_19 rfl (lv_at hl 0 rfl) ?_
    refine va_get (D := (dC, dI)) (ci := 6) (v := .ref (h 4)) (C := R_Q) (T := T_Q) (N := 6) hx hb hg in_Q hown hK hP 0 rfl rfl 3 (by decide) (hg _ t_159) (fun _ h9 => h9) rfl d_Q_global_20 ?_
    refine va_getN (D := (dC, dI)) (ci := 3) (v := .ref (h 13)) (C := R_M) (T := T_M) (N := 11) hx hb hg in_M hown hK hP 4 rfl rfl 2 (by decide) (va_Nw.use rfl (nF_3 hNs)) (fun _ h9 => h9) rfl d_Q_global_23 ?_
    refine lv_iload_n hx hb d_Q_global_26 rfl (lv_at hl 1 rfl) ?_
    obtain ⟨c3, hF⟩ := qs_in_some hF
    refine va_iald hx hb hK hP 13 6 rfl rfl c3 d_Q_global_27 ?_
    have h9 := Option.some.inj hF
    refine vx_ret ?_
    refine W.widen (k := 1) (n := 6) (Nat.le_of_ble_eq_true rfl) (Nat.le_of_ble_eq_true rfl) ?_
    exact W.iret (v := g 13 a1.toNatClampNeg) hx hb hr (fun t ht hW => ⟨⟨(g 13 a1.toNatClampNeg), g, rfl, h9.symm, by rw [ht]; exact hP, va_K.moved hW.alike hK, hD⟩, hS.F ht⟩) hS.2.2 d_Q_global_28
  · have hF := qs_pos c2 hF
    have h9 := Option.some.inj hF
    exact vx_throwS (text := "no such global") (names := ["java/lang/RuntimeException", "java/lang/Exception"]) hx hb hl9 hown (by decide +kernel) (by decide +kernel) (hg _ t_215) (hg _ t_12) hs154 (ha_Q_65 hg hNs) hd_Q_65 hU hN hS (hl.1.trans hml.symm) d_Q_global_9 d_Q_global_12 d_Q_global_13 d_Q_global_15 d_Q_global_18 (fun x h => (ht x h).elim) (Nat.le_of_ble_eq_true rfl) (Nat.le_of_ble_eq_true rfl) (Nat.le_of_ble_eq_true rfl) (Nat.le_of_ble_eq_true rfl) hlocks (fun t hvm hz hk => ⟨g, trivial, ⟨⟨h9.symm, by decide⟩, hP.kept (fun k q hq => hk q.1 (hP k q hq).lt), va_K.moved hvm hK, hD⟩, qs_F hS hz hk⟩) hS.2.2 (Nat.le_refl _) (Nat.le_refl _)

theorem d_Q_run_0 : decode b_Q_run 0 = .ok (.iload_n 1, 1) := by decide +kernel
theorem d_Q_run_1 : decode b_Q_run 1 = .ok (.bipush 6, 2) := by decide +kernel
theorem d_Q_run_3 : decode b_Q_run 3 = .ok (.invokestatic 83, 3) := by decide +kernel
theorem d_Q_run_6 : decode b_Q_run 6 = .ok (.ifCond .eq 17, 3) := by decide +kernel
theorem d_Q_run_9 : decode b_Q_run 9 = .ok (.iload_n 2, 1) := by decide +kernel
theorem d_Q_run_10 : decode b_Q_run 10 = .ok (.invokestatic 156, 3) := by decide +kernel
theorem d_Q_run_13 : decode b_Q_run 13 = .ok (.ifCond .eq 10, 3) := by decide +kernel
theorem d_Q_run_16 : decode b_Q_run 16 = .ok (.iload_n 3, 1) := by decide +kernel
theorem d_Q_run_17 : decode b_Q_run 17 = .ok (.invokestatic 156, 3) := by decide +kernel
theorem d_Q_run_20 : decode b_Q_run 20 = .ok (.ifCond .ne 13, 3) := by decide +kernel
theorem d_Q_run_23 : decode b_Q_run 23 = .ok (.new 61, 3) := by decide +kernel
theorem d_Q_run_26 : decode b_Q_run 26 = .ok (.dup, 1) := by decide +kernel
theorem d_Q_run_27 : decode b_Q_run 27 = .ok (.ldc 159, 2) := by decide +kernel
theorem d_Q_run_29 : decode b_Q_run 29 = .ok (.invokespecial 65, 3) := by decide +kernel
theorem d_Q_run_32 : decode b_Q_run 32 = .ok (.athrow, 1) := by decide +kernel
theorem d_Q_run_33 : decode b_Q_run 33 = .ok (.aload_n 0, 1) := by decide +kernel
theorem d_Q_run_34 : decode b_Q_run 34 = .ok (.getfield 35, 3) := by decide +kernel
theorem d_Q_run_37 : decode b_Q_run 37 = .ok (.iload_n 1, 1) := by decide +kernel
theorem d_Q_run_38 : decode b_Q_run 38 = .ok (.iload_n 2, 1) := by decide +kernel
theorem d_Q_run_39 : decode b_Q_run 39 = .ok (.iload_n 3, 1) := by decide +kernel
theorem d_Q_run_40 : decode b_Q_run 40 = .ok (.invokevirtual 161, 3) := by decide +kernel
theorem d_Q_run_43 : decode b_Q_run 43 = .ok (.ireturn, 1) := by decide +kernel
def f_Q_run (g : Sg) (a1 : Int32) (a2 : Int32) (a3 : Int32) : Option ((String × Sg) ⊕ (Int32 × Sg)) := (qs_pb (f_Q_isBelow (a1) (6)) fun r1 => (if r1 = 0 then (some (.inl ("java/lang/IllegalArgumentException", g))) else (qs_pb (f_Q_isEntityOrWorld (a2)) fun r3 => (if r3 = 0 then (some (.inl ("java/lang/IllegalArgumentException", g))) else (qs_pb (f_Q_isEntityOrWorld (a3)) fun r5 => (if r5 = 0 then (some (.inl ("java/lang/IllegalArgumentException", g))) else (qs_bn (f_M_start g (a1) (a2) (a3)) fun r7 u8 => (some (.inr (r7, u8))))))))))
set_option maxHeartbeats 4000000 in
set_option maxRecDepth 100000 in
theorem c_Q_run (l : Launch) (hl9 : l.stackTraces = false) (dC : Nat → ClassId) (dI : Nat → Nat → Nat) (h : Nat → Nat) (c : Nat → ClassId) (sz : Nat) (sa159 : Nat) (g : Sg) (a1 : Int32) (a2 : Int32) (a3 : Int32) (r0 : ((String × Sg) ⊕ (Int32 × Sg))) (hF : f_Q_run g a1 a2 a3 = some r0) : vx_Met l y_Q_run (qs_ws y_Q_run b_Q_run 4 (some .int)) ({ frames := 6, cells := 1, slots := 6, locals := 121 } : Room) (va_Pc ([.ref (h 0), .int a1, .int a2, .int a3] : List Value) (fun U => U.heap.size = sz ∧ va_P (dC, dI) vwCl (qs_W h c g) U.heap ∧ va_K (dC, dI) vwCl (qs_T c) U ∧ va_D (fun _ => True) (qs_W h c g) ∧ qs_N U ∧ vx_Zq Bundle.tN "UNASSIGNED_STACK" Bundle.steD (va_A (qs_W h c g) sz) U U.heap ∧ vx_Zq Bundle.tN "SUPPRESSED_SENTINEL" Bundle.listD (va_A (qs_W h c g) sz) U U.heap ∧ vk_R R_Q 159 "no such function or entity" sa159 U)) (va_Qi (fun (r : Int32) (u : Sg) => r0 = .inr (r, u)) (qs_at dC dI h c (va_A (qs_W h c g) sz)) (va_A (qs_W h c g) sz)) (vx_X (fun (_ : Sg) => True) (fun E u t => (r0 = .inl (E, u) ∧ E ∈ (["java/lang/IllegalArgumentException"] : List String)) ∧ qs_at dC dI h c (va_A (qs_W h c g) sz) u t) (va_A (qs_W h c g) sz)) 1 6 (va_A (qs_W h c g) sz) := by
  refine vx_ofW (cc := b_Q_run) (maxL := 4) (ret := (some .int)) (by decide +kernel) rfl ?_
  intro p e s m args below meth cd s₁ B hml ht hv
  obtain ⟨rfl, hsz, hP, hK, hD0, hNs, hU, hN, hs159⟩ := hv
  have hx := B.exec
  have hb := B.bytes
  have hr := B.returns
  have hts := atoms_spec (ws := (qs_ws y_Q_run b_Q_run 4 (some .int))) B.pre
  have hg : ∀ w ∈ qs_gt, w.before _ s = true := fun w h => hts w (List.mem_cons_of_mem _ h)
  have hown : s.vm.findClass R_Q = some m.cls := findClass_of_methodNamed B.named
  have hlocks := B.notSynchronized
  subst hsz
  have hD := hD0.self (sz := s.heap.size)
  generalize hAe : va_A (qs_W h c g) s.heap.size = A at hD hU hN ⊢
  have hA : ∀ q : Nat, s.heap.size ≤ q → A q := fun q h => by rw [← hAe]; exact Or.inr h
  have hS : va_S A s.heap s.heap [] := va_S.rf
  have hl := lv_entry ([.ref (h 0), .int a1, .int a2, .int a3] : List Value) (n := 4) (Nat.le_of_ble_eq_true rfl)
  rw [lg_entry_eq]
  generalize (lg_sl ([.ref (h 0), .int a1, .int a2, .int a3] : List Value) ++ List.replicate (4 - (lg_sl ([.ref (h 0), .int a1, .int a2, .int a3] : List Value)).length) Slot.unset).toArray = ls at hl ⊢
  have hl : lv_has ls 4 [(0, .ref (h 0)), (1, .int (a1)), (2, .int (a2)), (3, .int (a3))] := hl
  unfold f_Q_run at hF
  obtain ⟨H, hHe⟩ : ∃ H, H = s.heap := ⟨_, rfl⟩
  obtain ⟨locs, hLe⟩ : ∃ L : List Loc, L = [] := ⟨_, rfl⟩
  rw [← hHe] at hP ⊢
  rw [← hLe]
  have hS : va_S A s.heap H locs := by rw [hHe, hLe]; exact hS
  refine lv_iload_n hx hb d_Q_run_0 rfl (lv_at hl 1 rfl) ?_
  refine lv_bipush (v := 6) hx hb d_Q_run_1 (by decide) ?_
  obtain ⟨r1, hX, hF⟩ := qs_pb_some hF
  refine qs_psi (va_runS (own := "QuakeServer") (As := [.int (a1), .int (6)]) (rest := []) ⟨hx, hb, hml, hown, hg⟩ (c_Q_isBelow l H.size (a1) (6) r1 hX) (va_cwS 2 hg (qs_gS t_311 t_312 t_1 t_313) rfl rfl rfl (by decide +kernel) ⟨Nat.le_of_ble_eq_true rfl, Nat.le_of_ble_eq_true rfl⟩) ⟨qs_blind0, fun U hU hW => ⟨rfl, by rw [hU], hNs.warm hW⟩⟩ rfl rfl hl.1 rfl (lv_room (Nat.le_of_ble_eq_true rfl)) d_Q_run_3 ⟨Nat.le_of_ble_eq_true rfl, Nat.le_of_ble_eq_true rfl⟩) hP hD hS hA (fun H locs hP hS => ?_)
  refine lv_if_eq (tgt := 23) hx hb d_Q_run_6 (by decide) (fun c2 => ?_) (fun c2 => ?_)
  · have hF := qs_pos c2 hF
    have h9 := Option.some.inj hF
    exact vx_throwS (text := "no such function or entity") (names := ["java/lang/RuntimeException", "java/lang/Exception"]) hx hb hl9 hown (by decide +kernel) (by decide +kernel) (hg _ t_215) (hg _ t_12) hs159 (ha_Q_65 hg hNs) hd_Q_65 hU hN hS (hl.1.trans hml.symm) d_Q_run_23 d_Q_run_26 d_Q_run_27 d_Q_run_29 d_Q_run_32 (fun x h => (ht x h).elim) (Nat.le_of_ble_eq_true rfl) (Nat.le_of_ble_eq_true rfl) (Nat.le_of_ble_eq_true rfl) (Nat.le_of_ble_eq_true rfl) hlocks (fun t hvm hz hk => ⟨g, trivial, ⟨⟨h9.symm, by decide⟩, hP.kept (fun k q hq => hk q.1 (hP k q hq).lt), va_K.moved hvm hK, hD⟩, qs_F hS hz hk⟩) hS.2.2 (Nat.le_refl _) (Nat.le_refl _)
  · have hF := qs_neg c2 hF
    refine lv_iload_n hx hb d_Q_run_9 rfl (lv_at hl 2 rfl) ?_
    obtain ⟨r3, hX, hF⟩ := qs_pb_some hF
    refine qs_psi (va_runS (own := "QuakeServer") (As := [.int (a2)]) (rest := []) ⟨hx, hb, hml, hown, hg⟩ (c_Q_isEntityOrWorld l H.size (a2) r3 hX) (va_cwS 1 hg (qs_gS t_433 t_434 t_1 t_435) rfl rfl rfl (by decide +kernel) ⟨Nat.le_of_ble_eq_true rfl, Nat.le_of_ble_eq_true rfl⟩) ⟨qs_blind0, fun U hU hW => ⟨rfl, by rw [hU], hNs.warm hW⟩⟩ rfl rfl hl.1 rfl (lv_room (Nat.le_of_ble_eq_true rfl)) d_Q_run_10 ⟨Nat.le_of_ble_eq_true rfl, Nat.le_of_ble_eq_true rfl⟩) hP hD hS hA (fun H locs hP hS => ?_)
    refine lv_if_eq (tgt := 23) hx hb d_Q_run_13 (by decide) (fun c4 => ?_) (fun c4 => ?_)
    · have hF := qs_pos c4 hF
      have h9 := Option.some.inj hF
      exact vx_throwS (text := "no such function or entity") (names := ["java/lang/RuntimeException", "java/lang/Exception"]) hx hb hl9 hown (by decide +kernel) (by decide +kernel) (hg _ t_215) (hg _ t_12) hs159 (ha_Q_65 hg hNs) hd_Q_65 hU hN hS (hl.1.trans hml.symm) d_Q_run_23 d_Q_run_26 d_Q_run_27 d_Q_run_29 d_Q_run_32 (fun x h => (ht x h).elim) (Nat.le_of_ble_eq_true rfl) (Nat.le_of_ble_eq_true rfl) (Nat.le_of_ble_eq_true rfl) (Nat.le_of_ble_eq_true rfl) hlocks (fun t hvm hz hk => ⟨g, trivial, ⟨⟨h9.symm, by decide⟩, hP.kept (fun k q hq => hk q.1 (hP k q hq).lt), va_K.moved hvm hK, hD⟩, qs_F hS hz hk⟩) hS.2.2 (Nat.le_refl _) (Nat.le_refl _)
    · have hF := qs_neg c4 hF
      refine lv_iload_n hx hb d_Q_run_16 rfl (lv_at hl 3 rfl) ?_
      obtain ⟨r5, hX, hF⟩ := qs_pb_some hF
      refine qs_psi (va_runS (own := "QuakeServer") (As := [.int (a3)]) (rest := []) ⟨hx, hb, hml, hown, hg⟩ (c_Q_isEntityOrWorld l H.size (a3) r5 hX) (va_cwS 1 hg (qs_gS t_433 t_434 t_1 t_435) rfl rfl rfl (by decide +kernel) ⟨Nat.le_of_ble_eq_true rfl, Nat.le_of_ble_eq_true rfl⟩) ⟨qs_blind0, fun U hU hW => ⟨rfl, by rw [hU], hNs.warm hW⟩⟩ rfl rfl hl.1 rfl (lv_room (Nat.le_of_ble_eq_true rfl)) d_Q_run_17 ⟨Nat.le_of_ble_eq_true rfl, Nat.le_of_ble_eq_true rfl⟩) hP hD hS hA (fun H locs hP hS => ?_)
      refine lv_if_ne (tgt := 33) hx hb d_Q_run_20 (by decide) (fun c6 => ?_) (fun c6 => ?_)
      · have hF := qs_neg c6 hF
        refine lv_aload_n hx hb d_Q_run_33 rfl (lv_at hl 0 rfl) ?_
        refine va_get (D := (dC, dI)) (ci := 6) (v := .ref (h 4)) (C := R_Q) (T := T_Q) (N := 6) hx hb hg in_Q hown hK hP 0 rfl rfl 3 (by decide) (hg _ t_159) (fun _ h9 => h9) rfl d_Q_run_34 ?_
        refine lv_iload_n hx hb d_Q_run_37 rfl (lv_at hl 1 rfl) ?_
        refine lv_iload_n hx hb d_Q_run_38 rfl (lv_at hl 2 rfl) ?_
        refine lv_iload_n hx hb d_Q_run_39 rfl (lv_at hl 3 rfl) ?_
        obtain ⟨r7, u8, hX, hF⟩ := qs_bn_some hF
        refine qs_ci (Wd := qs_W h c) (isC := [0, 1, 2, 3, 4, 5, 6, 7, 8, 9, 10, 11, 12, 13, 14, 15, 16]) (va_runV (own := "QuakeServer") (C := "QuakeServer$Machine") (As := [.int (a1), .int (a2), .int (a3)]) (rest := []) ⟨hx, hb, hml, hown, hg⟩ (c_M_start l dC dI h c H.size g (a1) (a2) (a3) r7 u8 hX) (cwV 3 hg (qs_gV t_437 t_438 t_439 t_5 t_440) rfl rfl rfl (by decide +kernel) ⟨Nat.le_of_ble_eq_true rfl, Nat.le_of_ble_eq_true rfl⟩) ⟨qs_blind, va_recv hK hP (ci := 3) (q0 := 4) rfl rfl, fun U hU hW => ⟨rfl, by rw [hU], by rw [hU]; exact hP, va_K.moved hW.alike hK, hD.weaken (fun _ _ _ _ => trivial), hNs.warm hW⟩⟩ rfl rfl hl.1 rfl (lv_room (Nat.le_of_ble_eq_true rfl)) d_Q_run_40 ⟨Nat.le_of_ble_eq_true rfl, Nat.le_of_ble_eq_true rfl⟩) rfl hP hD hS hA (fun H locs hP hD hS => ?_)
        have h9 := Option.some.inj hF
        refine vx_ret ?_
        refine W.widen (k := 1) (n := 6) (Nat.le_of_ble_eq_true rfl) (Nat.le_of_ble_eq_true rfl) ?_
        exact W.iret (v := r7) hx hb hr (fun t ht hW => ⟨⟨r7, u8, rfl, h9.symm, by rw [ht]; exact hP, va_K.moved hW.alike hK, hD⟩, hS.F ht⟩) hS.2.2 d_Q_run_43
      · have hF := qs_pos c6 hF
        have h9 := Option.some.inj hF
        exact vx_throwS (text := "no such function or entity") (names := ["java/lang/RuntimeException", "java/lang/Exception"]) hx hb hl9 hown (by decide +kernel) (by decide +kernel) (hg _ t_215) (hg _ t_12) hs159 (ha_Q_65 hg hNs) hd_Q_65 hU hN hS (hl.1.trans hml.symm) d_Q_run_23 d_Q_run_26 d_Q_run_27 d_Q_run_29 d_Q_run_32 (fun x h => (ht x h).elim) (Nat.le_of_ble_eq_true rfl) (Nat.le_of_ble_eq_true rfl) (Nat.le_of_ble_eq_true rfl) (Nat.le_of_ble_eq_true rfl) hlocks (fun t hvm hz hk => ⟨g, trivial, ⟨⟨h9.symm, by decide⟩, hP.kept (fun k q hq => hk q.1 (hP k q hq).lt), va_K.moved hvm hK, hD⟩, qs_F hS hz hk⟩) hS.2.2 (Nat.le_refl _) (Nat.le_refl _)

theorem d_Q_tick_0 : decode b_Q_tick 0 = .ok (.iload_n 1, 1) := by decide +kernel
theorem d_Q_tick_1 : decode b_Q_tick 1 = .ok (.iconst 1, 1) := by decide +kernel
theorem d_Q_tick_2 : decode b_Q_tick 2 = .ok (.if_icmp .lt 8, 3) := by decide +kernel
theorem d_Q_tick_5 : decode b_Q_tick 5 = .ok (.iload_n 1, 1) := by decide +kernel
theorem d_Q_tick_6 : decode b_Q_tick 6 = .ok (.iconst 4, 1) := by decide +kernel
theorem d_Q_tick_7 : decode b_Q_tick 7 = .ok (.if_icmp .le 13, 3) := by decide +kernel
theorem d_Q_tick_10 : decode b_Q_tick 10 = .ok (.new 61, 3) := by decide +kernel
theorem d_Q_tick_13 : decode b_Q_tick 13 = .ok (.dup, 1) := by decide +kernel
theorem d_Q_tick_14 : decode b_Q_tick 14 = .ok (.ldc 165, 2) := by decide +kernel
theorem d_Q_tick_16 : decode b_Q_tick 16 = .ok (.invokespecial 65, 3) := by decide +kernel
theorem d_Q_tick_19 : decode b_Q_tick 19 = .ok (.athrow, 1) := by decide +kernel
theorem d_Q_tick_20 : decode b_Q_tick 20 = .ok (.iconst 0, 1) := by decide +kernel
theorem d_Q_tick_21 : decode b_Q_tick 21 = .ok (.istore_n 2, 1) := by decide +kernel
theorem d_Q_tick_22 : decode b_Q_tick 22 = .ok (.iload_n 2, 1) := by decide +kernel
theorem d_Q_tick_23 : decode b_Q_tick 23 = .ok (.iload_n 1, 1) := by decide +kernel
theorem d_Q_tick_24 : decode b_Q_tick 24 = .ok (.if_icmp .ge 38, 3) := by decide +kernel
theorem d_Q_tick_27 : decode b_Q_tick 27 = .ok (.aload_n 0, 1) := by decide +kernel
theorem d_Q_tick_28 : decode b_Q_tick 28 = .ok (.getfield 35, 3) := by decide +kernel
theorem d_Q_tick_31 : decode b_Q_tick 31 = .ok (.invokevirtual 167, 3) := by decide +kernel
theorem d_Q_tick_34 : decode b_Q_tick 34 = .ok (.iconst 0, 1) := by decide +kernel
theorem d_Q_tick_35 : decode b_Q_tick 35 = .ok (.istore_n 3, 1) := by decide +kernel
theorem d_Q_tick_36 : decode b_Q_tick 36 = .ok (.iload_n 3, 1) := by decide +kernel
theorem d_Q_tick_37 : decode b_Q_tick 37 = .ok (.bipush 12, 2) := by decide +kernel
theorem d_Q_tick_39 : decode b_Q_tick 39 = .ok (.if_icmp .ge 17, 3) := by decide +kernel
theorem d_Q_tick_42 : decode b_Q_tick 42 = .ok (.aload_n 0, 1) := by decide +kernel
theorem d_Q_tick_43 : decode b_Q_tick 43 = .ok (.getfield 44, 3) := by decide +kernel
theorem d_Q_tick_46 : decode b_Q_tick 46 = .ok (.iload_n 3, 1) := by decide +kernel
theorem d_Q_tick_47 : decode b_Q_tick 47 = .ok (.invokevirtual 170, 3) := by decide +kernel
theorem d_Q_tick_50 : decode b_Q_tick 50 = .ok (.iinc 3 1, 3) := by decide +kernel
theorem d_Q_tick_53 : decode b_Q_tick 53 = .ok (.goto (-17), 3) := by decide +kernel
theorem d_Q_tick_56 : decode b_Q_tick 56 = .ok (.iinc 2 1, 3) := by decide +kernel
theorem d_Q_tick_59 : decode b_Q_tick 59 = .ok (.goto (-37), 3) := by decide +kernel
theorem d_Q_tick_62 : decode b_Q_tick 62 = .ok (.aload_n 0, 1) := by decide +kernel
theorem d_Q_tick_63 : decode b_Q_tick 63 = .ok (.getfield 12, 3) := by decide +kernel
theorem d_Q_tick_66 : decode b_Q_tick 66 = .ok (.invokevirtual 173, 3) := by decide +kernel
theorem d_Q_tick_69 : decode b_Q_tick 69 = .ok (.ireturn, 1) := by decide +kernel
def f_Q_tick_36 (k22 : Sg → Int32 → Int32 → Option ((String × Sg) ⊕ (Int32 × Sg))) : Nat → Sg → Int32 → Int32 → Int32 → Option ((String × Sg) ⊕ (Int32 × Sg))
  | 0, _, _, _, _ => none
  | n + 1, g, x1, x2, x3 => (if 12 ≤ x3 then (k22 g (x1) (x2 + 1)) else (qs_bn (f_V_takeTurn g (x3)) fun _ u10 => (f_Q_tick_36 k22 n u10 (x1) (x2) (x3 + 1))))
def f_Q_tick_22  : Nat → Sg → Int32 → Int32 → Option ((String × Sg) ⊕ (Int32 × Sg))
  | 0, _, _, _ => none
  | n + 1, g, x1, x2 => (if x1 ≤ x2 then (qs_bn (f_E_number g ) fun r4 u5 => (some (.inr (r4, u5)))) else (qs_bn (f_M_advanceTime g ) fun _ u7 => (f_Q_tick_36 (fun g x1 x2 => f_Q_tick_22  n g x1 x2) 200 u7 (x1) (x2) (0))))
def f_Q_tick (g : Sg) (a1 : Int32) : Option ((String × Sg) ⊕ (Int32 × Sg)) := (if a1 < 1 then (some (.inl ("java/lang/IllegalArgumentException", g))) else (if a1 ≤ 4 then (f_Q_tick_22 200 g (a1) (0)) else (some (.inl ("java/lang/IllegalArgumentException", g)))))
set_option maxHeartbeats 4000000 in
set_option maxRecDepth 100000 in
theorem c_Q_tick (l : Launch) (hl9 : l.stackTraces = false) (dC : Nat → ClassId) (dI : Nat → Nat → Nat) (h : Nat → Nat) (c : Nat → ClassId) (sz : Nat) (sa165 : Nat) (g : Sg) (a1 : Int32) (r0 : ((String × Sg) ⊕ (Int32 × Sg))) (hF : f_Q_tick g a1 = some r0) : vx_Met l y_Q_tick (qs_ws y_Q_tick b_Q_tick 4 (some .int)) ({ frames := 7, cells := 1, slots := 6, locals := 166 } : Room) (va_Pc ([.ref (h 0), .int a1] : List Value) (fun U => U.heap.size = sz ∧ va_P (dC, dI) vwCl (qs_W h c g) U.heap ∧ va_K (dC, dI) vwCl (qs_T c) U ∧ va_D (fun _ => True) (qs_W h c g) ∧ qs_N U ∧ vx_Zq Bundle.tN "UNASSIGNED_STACK" Bundle.steD (va_A (qs_W h c g) sz) U U.heap ∧ vx_Zq Bundle.tN "SUPPRESSED_SENTINEL" Bundle.listD (va_A (qs_W h c g) sz) U U.heap ∧ vk_R R_Q 165 "not 1 .. 4 ticks" sa165 U)) (va_Qi (fun (r : Int32) (u : Sg) => r0 = .inr (r, u)) (qs_at dC dI h c (va_A (qs_W h c g) sz)) (va_A (qs_W h c g) sz)) (vx_X (fun (_ : Sg) => True) (fun E u t => (r0 = .inl (E, u) ∧ E ∈ (["java/lang/IllegalArgumentException"] : List String)) ∧ qs_at dC dI h c (va_A (qs_W h c g) sz) u t) (va_A (qs_W h c g) sz)) 1 6 (va_A (qs_W h c g) sz) := by
  refine vx_ofW (cc := b_Q_tick) (maxL := 4) (ret := (some .int)) (by decide +kernel) rfl ?_
  intro p e s m args below meth cd s₁ B hml ht hv
  obtain ⟨rfl, hsz, hP, hK, hD0, hNs, hU, hN, hs165⟩ := hv
  have hx := B.exec
  have hb := B.bytes
  have hr := B.returns
  have hts := atoms_spec (ws := (qs_ws y_Q_tick b_Q_tick 4 (some .int))) B.pre
  have hg : ∀ w ∈ qs_gt, w.before _ s = true := fun w h => hts w (List.mem_cons_of_mem _ h)
  have hown : s.vm.findClass R_Q = some m.cls := findClass_of_methodNamed B.named
  have hlocks := B.notSynchronized
  subst hsz
  have hD := hD0.self (sz := s.heap.size)
  generalize hAe : va_A (qs_W h c g) s.heap.size = A at hD hU hN ⊢
  have hA : ∀ q : Nat, s.heap.size ≤ q → A q := fun q h => by rw [← hAe]; exact Or.inr h
  have hS : va_S A s.heap s.heap [] := va_S.rf
  have kb_36 : ∀ (k22 : Sg → Int32 → Int32 → Option ((String × Sg) ⊕ (Int32 × Sg))), (∀ (g : Sg) (x1 : Int32) (x2 : Int32) (H : Heap) (locs : List Loc) (ls : Array Slot), va_P (dC, dI) vwCl (qs_W h c g) H → va_D A (qs_W h c g) → va_S A s.heap H locs → lv_has ls 4 [(0, .ref (h 0)), (1, .int (x1)), (2, .int (x2))] → k22 g x1 x2 = some r0 → W p l e (headSpec (qs_ws y_Q_tick b_Q_tick 4 (some .int)) ({ frames := 7, cells := 1, slots := 6, locals := 166 } : Room)).room s m ([.ref (h 0), .int a1] : List Value).toArray below meth cd H locs 0 0 (vx_MQ below (va_Qi (fun (r : Int32) (u : Sg) => r0 = .inr (r, u)) (qs_at dC dI h c A) A) (vx_X (fun (_ : Sg) => True) (fun E u t => (r0 = .inl (E, u) ∧ E ∈ (["java/lang/IllegalArgumentException"] : List String)) ∧ qs_at dC dI h c A u t) A) ([.ref (h 0), .int a1] : List Value).toArray s 1 6 A) (F0 m 22 ls [])) → ∀ n : Nat, ∀ (g : Sg) (x1 : Int32) (x2 : Int32) (x3 : Int32) (H : Heap) (locs : List Loc) (ls : Array Slot), va_P (dC, dI) vwCl (qs_W h c g) H → va_D A (qs_W h c g) → va_S A s.heap H locs → lv_has ls 4 [(0, .ref (h 0)), (1, .int (x1)), (2, .int (x2)), (3, .int (x3))] → f_Q_tick_36 k22 n g x1 x2 x3 = some r0 → W p l e (headSpec (qs_ws y_Q_tick b_Q_tick 4 (some .int)) ({ frames := 7, cells := 1, slots := 6, locals := 166 } : Room)).room s m ([.ref (h 0), .int a1] : List Value).toArray below meth cd H locs 0 0 (vx_MQ below (va_Qi (fun (r : Int32) (u : Sg) => r0 = .inr (r, u)) (qs_at dC dI h c A) A) (vx_X (fun (_ : Sg) => True) (fun E u t => (r0 = .inl (E, u) ∧ E ∈ (["java/lang/IllegalArgumentException"] : List String)) ∧ qs_at dC dI h c A u t) A) ([.ref (h 0), .int a1] : List Value).toArray s 1 6 A) (F0 m 36 ls []) := by
    intro k22 hk22
    intro n
    induction n with
    | zero =>
      intro g x1 x2 x3 H locs ls hP hD hS hl hF
      exact nomatch (show (none : Option ((String × Sg) ⊕ (Int32 × Sg))) = some _ from hF)
    | succ n ih =>
      intro g x1 x2 x3 H locs ls hP hD hS hl hF
      rw [f_Q_tick_36] at hF
      refine lv_iload_n hx hb d_Q_tick_36 rfl (lv_at hl 3 rfl) ?_
      refine lv_bipush (v := 12) hx hb d_Q_tick_37 (by decide) ?_
      refine lv_icmp_ge (tgt := 56) hx hb d_Q_tick_39 (by decide) (fun c8 => ?_) (fun c8 => ?_)
      · have hF := qs_pos c8 hF
        refine lv_iinc (v := x2 + 1) (lv' := [(2, .int (x2 + 1)), (0, .ref (h 0)), (1, .int (x1)), (3, .int (x3))]) hx hb d_Q_tick_56 hl (k := 2) rfl (by rfl) (by decide) rfl (fun ls hl => ?_)
        refine lv_goto (tgt := 22) hx hb d_Q_tick_59 (by decide) ?_
        exact hk22 g (x1) (x2 + 1) H locs ls hP hD hS (lv_sub hl [1, 2, 0] rfl) hF
      · have hF := qs_neg c8 hF
        refine lv_aload_n hx hb d_Q_tick_42 rfl (lv_at hl 0 rfl) ?_
        refine va_get (D := (dC, dI)) (ci := 6) (v := .ref (h 5)) (C := R_Q) (T := T_Q) (N := 6) hx hb hg in_Q hown hK hP 0 rfl rfl 4 (by decide) (hg _ t_160) (fun _ h9 => h9) rfl d_Q_tick_43 ?_
        refine lv_iload_n hx hb d_Q_tick_46 rfl (lv_at hl 3 rfl) ?_
        obtain ⟨r9, u10, hX, hF⟩ := qs_bn_some hF
        refine qs_cv (Wd := qs_W h c) (isC := [0, 1, 2, 3, 4, 5, 6, 7, 8, 9, 10, 11, 12, 13, 14, 15, 16]) (va_runV (own := "QuakeServer") (C := "QuakeServer$Mover") (As := [.int (x3)]) (rest := []) ⟨hx, hb, hml, hown, hg⟩ (c_V_takeTurn l dC dI h c H.size g (x3)  u10 hX) (cwV 1 hg (qs_gV t_504 t_505 t_506 t_6 t_507) rfl rfl rfl (by decide +kernel) ⟨Nat.le_of_ble_eq_true rfl, Nat.le_of_ble_eq_true rfl⟩) ⟨qs_blind, va_recv hK hP (ci := 4) (q0 := 5) rfl rfl, fun U hU hW => ⟨rfl, by rw [hU], by rw [hU]; exact hP, va_K.moved hW.alike hK, hD.weaken (fun _ _ _ _ => trivial), hNs.warm hW⟩⟩ rfl rfl hl.1 rfl (lv_room (Nat.le_of_ble_eq_true rfl)) d_Q_tick_47 ⟨Nat.le_of_ble_eq_true rfl, Nat.le_of_ble_eq_true rfl⟩) rfl hP hD hS hA (fun H locs hP hD hS => ?_)
        refine lv_iinc (v := x3 + 1) (lv' := [(3, .int (x3 + 1)), (0, .ref (h 0)), (1, .int (x1)), (2, .int (x2))]) hx hb d_Q_tick_50 hl (k := 3) rfl (by rfl) (by decide) rfl (fun ls hl => ?_)
        refine lv_goto (tgt := 36) hx hb d_Q_tick_53 (by decide) ?_
        exact ih u10 (x1) (x2) (x3 + 1) H locs ls hP hD hS (lv_sub hl [1, 2, 3, 0] rfl) hF
  have kb_22 : ∀ n : Nat, ∀ (g : Sg) (x1 : Int32) (x2 : Int32) (H : Heap) (locs : List Loc) (ls : Array Slot), va_P (dC, dI) vwCl (qs_W h c g) H → va_D A (qs_W h c g) → va_S A s.heap H locs → lv_has ls 4 [(0, .ref (h 0)), (1, .int (x1)), (2, .int (x2))] → f_Q_tick_22 n g x1 x2 = some r0 → W p l e (headSpec (qs_ws y_Q_tick b_Q_tick 4 (some .int)) ({ frames := 7, cells := 1, slots := 6, locals := 166 } : Room)).room s m ([.ref (h 0), .int a1] : List Value).toArray below meth cd H locs 0 0 (vx_MQ below (va_Qi (fun (r : Int32) (u : Sg) => r0 = .inr (r, u)) (qs_at dC dI h c A) A) (vx_X (fun (_ : Sg) => True) (fun E u t => (r0 = .inl (E, u) ∧ E ∈ (["java/lang/IllegalArgumentException"] : List String)) ∧ qs_at dC dI h c A u t) A) ([.ref (h 0), .int a1] : List Value).toArray s 1 6 A) (F0 m 22 ls []) := by
    intro n
    induction n with
    | zero =>
      intro g x1 x2 H locs ls hP hD hS hl hF
      exact nomatch (show (none : Option ((String × Sg) ⊕ (Int32 × Sg))) = some _ from hF)
    | succ n ih =>
      intro g x1 x2 H locs ls hP hD hS hl hF
      rw [f_Q_tick_22] at hF
      refine lv_iload_n hx hb d_Q_tick_22 rfl (lv_at hl 2 rfl) ?_
      refine lv_iload_n hx hb d_Q_tick_23 rfl (lv_at hl 1 rfl) ?_
      refine lv_icmp_ge (tgt := 62) hx hb d_Q_tick_24 (by decide) (fun c3 => ?_) (fun c3 => ?_)
      · have hF := qs_pos c3 hF
        refine lv_aload_n hx hb d_Q_tick_62 rfl (lv_at hl 0 rfl) ?_
        refine va_get (D := (dC, dI)) (ci := 6) (v := .ref (h 1)) (C := R_Q) (T := T_Q) (N := 6) hx hb hg in_Q hown hK hP 0 rfl rfl 0 (by decide) (hg _ t_156) (fun _ h9 => h9) rfl d_Q_tick_63 ?_
        obtain ⟨r4, u5, hX, hF⟩ := qs_bn_some hF
        refine qs_ci (Wd := qs_W h c) (isC := [0, 1, 2, 3, 4, 5, 6, 7, 8, 9, 10, 11, 12, 13, 14, 15, 16]) (va_runV (own := "QuakeServer") (C := "QuakeServer$Entities") (As := []) (rest := []) ⟨hx, hb, hml, hown, hg⟩ (c_E_number l dC dI h c H.size g  r4 u5 hX) (cwV 0 hg (qs_gV t_588 t_589 t_590 t_2 t_591) rfl rfl rfl (by decide +kernel) ⟨Nat.le_of_ble_eq_true rfl, Nat.le_of_ble_eq_true rfl⟩) ⟨qs_blind, va_recv hK hP (ci := 0) (q0 := 1) rfl rfl, fun U hU hW => ⟨rfl, by rw [hU], by rw [hU]; exact hP, va_K.moved hW.alike hK, hD.weaken (fun _ _ _ _ => trivial), hNs.warm hW⟩⟩ rfl rfl hl.1 rfl (lv_room (Nat.le_of_ble_eq_true rfl)) d_Q_tick_66 ⟨Nat.le_of_ble_eq_true rfl, Nat.le_of_ble_eq_true rfl⟩) rfl hP hD hS hA (fun H locs hP hD hS => ?_)
        have h9 := Option.some.inj hF
        refine vx_ret ?_
        refine W.widen (k := 1) (n := 6) (Nat.le_of_ble_eq_true rfl) (Nat.le_of_ble_eq_true rfl) ?_
        exact W.iret (v := r4) hx hb hr (fun t ht hW => ⟨⟨r4, u5, rfl, h9.symm, by rw [ht]; exact hP, va_K.moved hW.alike hK, hD⟩, hS.F ht⟩) hS.2.2 d_Q_tick_69
      · have hF := qs_neg c3 hF
        refine lv_aload_n hx hb d_Q_tick_27 rfl (lv_at hl 0 rfl) ?_
        refine va_get (D := (dC, dI)) (ci := 6) (v := .ref (h 4)) (C := R_Q) (T := T_Q) (N := 6) hx hb hg in_Q hown hK hP 0 rfl rfl 3 (by decide) (hg _ t_159) (fun _ h9 => h9) rfl d_Q_tick_28 ?_
        obtain ⟨r6, u7, hX, hF⟩ := qs_bn_some hF
        refine qs_cv (Wd := qs_W h c) (isC := [0, 1, 2, 3, 4, 5, 6, 7, 8, 9, 10, 11, 12, 13, 14, 15, 16]) (va_runV (own := "QuakeServer") (C := "QuakeServer$Machine") (As := []) (rest := []) ⟨hx, hb, hml, hown, hg⟩ (c_M_advanceTime l dC dI h c H.size g   u7 hX) (cwV 0 hg (qs_gV t_500 t_501 t_502 t_5 t_503) rfl rfl rfl (by decide +kernel) ⟨Nat.le_of_ble_eq_true rfl, Nat.le_of_ble_eq_true rfl⟩) ⟨qs_blind, va_recv hK hP (ci := 3) (q0 := 4) rfl rfl, fun U hU hW => ⟨rfl, by rw [hU], by rw [hU]; exact hP, va_K.moved hW.alike hK, hD.weaken (fun _ _ _ _ => trivial), hNs.warm hW⟩⟩ rfl rfl hl.1 rfl (lv_room (Nat.le_of_ble_eq_true rfl)) d_Q_tick_31 ⟨Nat.le_of_ble_eq_true rfl, Nat.le_of_ble_eq_true rfl⟩) rfl hP hD hS hA (fun H locs hP hD hS => ?_)
        refine lv_iconst (v := 0) hx hb d_Q_tick_34 (by decide) ?_
        refine lv_istore_n (lv' := [(3, .int (0)), (0, .ref (h 0)), (1, .int (x1)), (2, .int (x2))]) hx hb d_Q_tick_35 rfl hl (by decide) rfl (fun ls hl => ?_)
        exact kb_36 _ ih 200 u7 (x1) (x2) (0) H locs ls hP hD hS (lv_sub hl [1, 2, 3, 0] rfl) hF
  have hl := lv_entry ([.ref (h 0), .int a1] : List Value) (n := 4) (Nat.le_of_ble_eq_true rfl)
  rw [lg_entry_eq]
  generalize (lg_sl ([.ref (h 0), .int a1] : List Value) ++ List.replicate (4 - (lg_sl ([.ref (h 0), .int a1] : List Value)).length) Slot.unset).toArray = ls at hl ⊢
  have hl : lv_has ls 4 [(0, .ref (h 0)), (1, .int (a1))] := hl
  unfold f_Q_tick at hF
  obtain ⟨H, hHe⟩ : ∃ H, H = s.heap := ⟨_, rfl⟩
  obtain ⟨locs, hLe⟩ : ∃ L : List Loc, L = [] := ⟨_, rfl⟩
  rw [← hHe] at hP ⊢
  rw [← hLe]
  have hS : va_S A s.heap H locs := by rw [hHe, hLe]; exact hS
  refine lv_iload_n hx hb d_Q_tick_0 rfl (lv_at hl 1 rfl) ?_
  refine lv_iconst (v := 1) hx hb d_Q_tick_1 (by decide) ?_
  refine lv_icmp_lt (tgt := 10) hx hb d_Q_tick_2 (by decide) (fun c1 => ?_) (fun c1 => ?_)
  · have hF := qs_pos c1 hF
    have h9 := Option.some.inj hF
    exact vx_throwS (text := "not 1 .. 4 ticks") (names := ["java/lang/RuntimeException", "java/lang/Exception"]) hx hb hl9 hown (by decide +kernel) (by decide +kernel) (hg _ t_215) (hg _ t_12) hs165 (ha_Q_65 hg hNs) hd_Q_65 hU hN hS (hl.1.trans hml.symm) d_Q_tick_10 d_Q_tick_13 d_Q_tick_14 d_Q_tick_16 d_Q_tick_19 (fun x h => (ht x h).elim) (Nat.le_of_ble_eq_true rfl) (Nat.le_of_ble_eq_true rfl) (Nat.le_of_ble_eq_true rfl) (Nat.le_of_ble_eq_true rfl) hlocks (fun t hvm hz hk => ⟨g, trivial, ⟨⟨h9.symm, by decide⟩, hP.kept (fun k q hq => hk q.1 (hP k q hq).lt), va_K.moved hvm hK, hD⟩, qs_F hS hz hk⟩) hS.2.2 (Nat.le_refl _) (Nat.le_refl _)
  · have hF := qs_neg c1 hF
    refine lv_iload_n hx hb d_Q_tick_5 rfl (lv_at hl 1 rfl) ?_
    refine lv_iconst (v := 4) hx hb d_Q_tick_6 (by decide) ?_
    refine lv_icmp_le (tgt := 20) hx hb d_Q_tick_7 (by decide) (fun c2 => ?_) (fun c2 => ?_)
    · have hF := qs_pos c2 hF
      refine lv_iconst (v := 0) hx hb d_Q_tick_20 (by decide) ?_
      refine lv_istore_n (lv' := [(2, .int (0)), (0, .ref (h 0)), (1, .int (a1))]) hx hb d_Q_tick_21 rfl hl (by decide) rfl (fun ls hl => ?_)
      exact kb_22 200 g (a1) (0) H locs ls hP hD hS (lv_sub hl [1, 2, 0] rfl) hF
    · have hF := qs_neg c2 hF
      have h9 := Option.some.inj hF
      exact vx_throwS (text := "not 1 .. 4 ticks") (names := ["java/lang/RuntimeException", "java/lang/Exception"]) hx hb hl9 hown (by decide +kernel) (by decide +kernel) (hg _ t_215) (hg _ t_12) hs165 (ha_Q_65 hg hNs) hd_Q_65 hU hN hS (hl.1.trans hml.symm) d_Q_tick_10 d_Q_tick_13 d_Q_tick_14 d_Q_tick_16 d_Q_tick_19 (fun x h => (ht x h).elim) (Nat.le_of_ble_eq_true rfl) (Nat.le_of_ble_eq_true rfl) (Nat.le_of_ble_eq_true rfl) (Nat.le_of_ble_eq_true rfl) hlocks (fun t hvm hz hk => ⟨g, trivial, ⟨⟨h9.symm, by decide⟩, hP.kept (fun k q hq => hk q.1 (hP k q hq).lt), va_K.moved hvm hK, hD⟩, qs_F hS hz hk⟩) hS.2.2 (Nat.le_refl _) (Nat.le_refl _)

theorem d_Q_count_0 : decode b_Q_count 0 = .ok (.iload_n 1, 1) := by decide +kernel
theorem d_Q_count_1 : decode b_Q_count 1 = .ok (.tableswitch 99 0 6 #[43, 51, 59, 67, 75, 83, 91], 43) := by decide +kernel
theorem d_Q_count_44 : decode b_Q_count 44 = .ok (.aload_n 0, 1) := by decide +kernel
theorem d_Q_count_45 : decode b_Q_count 45 = .ok (.getfield 12, 3) := by decide +kernel
theorem d_Q_count_48 : decode b_Q_count 48 = .ok (.invokevirtual 173, 3) := by decide +kernel
theorem d_Q_count_51 : decode b_Q_count 51 = .ok (.ireturn, 1) := by decide +kernel
theorem d_Q_count_52 : decode b_Q_count 52 = .ok (.aload_n 0, 1) := by decide +kernel
theorem d_Q_count_53 : decode b_Q_count 53 = .ok (.getfield 19, 3) := by decide +kernel
theorem d_Q_count_56 : decode b_Q_count 56 = .ok (.getfield 70, 3) := by decide +kernel
theorem d_Q_count_59 : decode b_Q_count 59 = .ok (.ireturn, 1) := by decide +kernel
theorem d_Q_count_60 : decode b_Q_count 60 = .ok (.aload_n 0, 1) := by decide +kernel
theorem d_Q_count_61 : decode b_Q_count 61 = .ok (.getfield 35, 3) := by decide +kernel
theorem d_Q_count_64 : decode b_Q_count 64 = .ok (.getfield 186, 3) := by decide +kernel
theorem d_Q_count_67 : decode b_Q_count 67 = .ok (.ireturn, 1) := by decide +kernel
theorem d_Q_count_68 : decode b_Q_count 68 = .ok (.aload_n 0, 1) := by decide +kernel
theorem d_Q_count_69 : decode b_Q_count 69 = .ok (.getfield 35, 3) := by decide +kernel
theorem d_Q_count_72 : decode b_Q_count 72 = .ok (.getfield 189, 3) := by decide +kernel
theorem d_Q_count_75 : decode b_Q_count 75 = .ok (.ireturn, 1) := by decide +kernel
theorem d_Q_count_76 : decode b_Q_count 76 = .ok (.aload_n 0, 1) := by decide +kernel
theorem d_Q_count_77 : decode b_Q_count 77 = .ok (.getfield 35, 3) := by decide +kernel
theorem d_Q_count_80 : decode b_Q_count 80 = .ok (.getfield 192, 3) := by decide +kernel
theorem d_Q_count_83 : decode b_Q_count 83 = .ok (.ireturn, 1) := by decide +kernel
theorem d_Q_count_84 : decode b_Q_count 84 = .ok (.aload_n 0, 1) := by decide +kernel
theorem d_Q_count_85 : decode b_Q_count 85 = .ok (.getfield 35, 3) := by decide +kernel
theorem d_Q_count_88 : decode b_Q_count 88 = .ok (.getfield 195, 3) := by decide +kernel
theorem d_Q_count_91 : decode b_Q_count 91 = .ok (.ireturn, 1) := by decide +kernel
theorem d_Q_count_92 : decode b_Q_count 92 = .ok (.aload_n 0, 1) := by decide +kernel
theorem d_Q_count_93 : decode b_Q_count 93 = .ok (.getfield 44, 3) := by decide +kernel
theorem d_Q_count_96 : decode b_Q_count 96 = .ok (.getfield 198, 3) := by decide +kernel
theorem d_Q_count_99 : decode b_Q_count 99 = .ok (.ireturn, 1) := by decide +kernel
theorem d_Q_count_100 : decode b_Q_count 100 = .ok (.new 61, 3) := by decide +kernel
theorem d_Q_count_103 : decode b_Q_count 103 = .ok (.dup, 1) := by decide +kernel
theorem d_Q_count_104 : decode b_Q_count 104 = .ok (.ldc 201, 2) := by decide +kernel
theorem d_Q_count_106 : decode b_Q_count 106 = .ok (.invokespecial 65, 3) := by decide +kernel
theorem d_Q_count_109 : decode b_Q_count 109 = .ok (.athrow, 1) := by decide +kernel
def f_Q_count (g : Sg) (a1 : Int32) : Option ((String × Sg) ⊕ (Int32 × Sg)) := (if a1 = 0 then (qs_bn (f_E_number g ) fun r2 u3 => (some (.inr (r2, u3)))) else (if a1 = 1 then (some (.inr (g 20 0, g))) else (if a1 = 2 then (some (.inr (g 23 0, g))) else (if a1 = 3 then (some (.inr (g 25 0, g))) else (if a1 = 4 then (some (.inr (g 24 0, g))) else (if a1 = 5 then (some (.inr (g 26 0, g))) else (if a1 = 6 then (some (.inr (g 27 0, g))) else (some (.inl ("java/lang/IllegalArgumentException", g))))))))))
set_option maxHeartbeats 4000000 in
set_option maxRecDepth 100000 in
theorem c_Q_count (l : Launch) (hl9 : l.stackTraces = false) (dC : Nat → ClassId) (dI : Nat → Nat → Nat) (h : Nat → Nat) (c : Nat → ClassId) (sz : Nat) (sa201 : Nat) (g : Sg) (a1 : Int32) (r0 : ((String × Sg) ⊕ (Int32 × Sg))) (hF : f_Q_count g a1 = some r0) : vx_Met l y_Q_count (qs_ws y_Q_count b_Q_count 2 (some .int)) ({ frames := 6, cells := 1, slots := 6, locals := 82 } : Room) (va_Pc ([.ref (h 0), .int a1] : List Value) (fun U => U.heap.size = sz ∧ va_P (dC, dI) vwCl (qs_W h c g) U.heap ∧ va_K (dC, dI) vwCl (qs_T c) U ∧ va_D (fun _ => True) (qs_W h c g) ∧ qs_N U ∧ vx_Zq Bundle.tN "UNASSIGNED_STACK" Bundle.steD (va_A (qs_W h c g) sz) U U.heap ∧ vx_Zq Bundle.tN "SUPPRESSED_SENTINEL" Bundle.listD (va_A (qs_W h c g) sz) U U.heap ∧ vk_R R_Q 201 "nothing of that number is counted" sa201 U)) (va_Qi (fun (r : Int32) (u : Sg) => r0 = .inr (r, u)) (qs_at dC dI h c (va_A (qs_W h c g) sz)) (va_A (qs_W h c g) sz)) (vx_X (fun (_ : Sg) => True) (fun E u t => (r0 = .inl (E, u) ∧ E ∈ (["java/lang/IllegalArgumentException"] : List String)) ∧ qs_at dC dI h c (va_A (qs_W h c g) sz) u t) (va_A (qs_W h c g) sz)) 1 6 (va_A (qs_W h c g) sz) := by
  refine vx_ofW (cc := b_Q_count) (maxL := 2) (ret := (some .int)) (by decide +kernel) rfl ?_
  intro p e s m args below meth cd s₁ B hml ht hv
  obtain ⟨rfl, hsz, hP, hK, hD0, hNs, hU, hN, hs201⟩ := hv
  have hx := B.exec
  have hb := B.bytes
  have hr := B.returns
  have hts := atoms_spec (ws := (qs_ws y_Q_count b_Q_count 2 (some .int))) B.pre
  have hg : ∀ w ∈ qs_gt, w.before _ s = true := fun w h => hts w (List.mem_cons_of_mem _ h)
  have hown : s.vm.findClass R_Q = some m.cls := findClass_of_methodNamed B.named
  have hlocks := B.notSynchronized
  subst hsz
  have hD := hD0.self (sz := s.heap.size)
  generalize hAe : va_A (qs_W h c g) s.heap.size = A at hD hU hN ⊢
  have hA : ∀ q : Nat, s.heap.size ≤ q → A q := fun q h => by rw [← hAe]; exact Or.inr h
  have hS : va_S A s.heap s.heap [] := va_S.rf
  have hl := lv_entry ([.ref (h 0), .int a1] : List Value) (n := 2) (Nat.le_of_ble_eq_true rfl)
  rw [lg_entry_eq]
  generalize (lg_sl ([.ref (h 0), .int a1] : List Value) ++ List.replicate (2 - (lg_sl ([.ref (h 0), .int a1] : List Value)).length) Slot.unset).toArray = ls at hl ⊢
  have hl : lv_has ls 2 [(0, .ref (h 0)), (1, .int (a1))] := hl
  unfold f_Q_count at hF
  obtain ⟨H, hHe⟩ : ∃ H, H = s.heap := ⟨_, rfl⟩
  obtain ⟨locs, hLe⟩ : ∃ L : List Loc, L = [] := ⟨_, rfl⟩
  rw [← hHe] at hP ⊢
  rw [← hLe]
  have hS : va_S A s.heap H locs := by rw [hHe, hLe]; exact hS
  refine lv_iload_n hx hb d_Q_count_0 rfl (lv_at hl 1 rfl) ?_
  by_cases c1 : a1 = 0
  · have hF := qs_pos c1 hF
    refine lv_tableIn (tgt := 44) hx hb d_Q_count_1 (by rw [c1]; decide) (by rw [c1]; decide) (by rw [c1]; rfl) (by decide) ?_
    refine lv_aload_n hx hb d_Q_count_44 rfl (lv_at hl 0 rfl) ?_
    refine va_get (D := (dC, dI)) (ci := 6) (v := .ref (h 1)) (C := R_Q) (T := T_Q) (N := 6) hx hb hg in_Q hown hK hP 0 rfl rfl 0 (by decide) (hg _ t_156) (fun _ h9 => h9) rfl d_Q_count_45 ?_
    obtain ⟨r2, u3, hX, hF⟩ := qs_bn_some hF
    refine qs_ci (Wd := qs_W h c) (isC := [0, 1, 2, 3, 4, 5, 6, 7, 8, 9, 10, 11, 12, 13, 14, 15, 16]) (va_runV (own := "QuakeServer") (C := "QuakeServer$Entities") (As := []) (rest := []) ⟨hx, hb, hml, hown, hg⟩ (c_E_number l dC dI h c H.size g  r2 u3 hX) (cwV 0 hg (qs_gV t_588 t_589 t_590 t_2 t_591) rfl rfl rfl (by decide +kernel) ⟨Nat.le_of_ble_eq_true rfl, Nat.le_of_ble_eq_true rfl⟩) ⟨qs_blind, va_recv hK hP (ci := 0) (q0 := 1) rfl rfl, fun U hU hW => ⟨rfl, by rw [hU], by rw [hU]; exact hP, va_K.moved hW.alike hK, hD.weaken (fun _ _ _ _ => trivial), hNs.warm hW⟩⟩ rfl rfl hl.1 rfl (lv_room (Nat.le_of_ble_eq_true rfl)) d_Q_count_48 ⟨Nat.le_of_ble_eq_true rfl, Nat.le_of_ble_eq_true rfl⟩) rfl hP hD hS hA (fun H locs hP hD hS => ?_)
    have h9 := Option.some.inj hF
    refine vx_ret ?_
    refine W.widen (k := 1) (n := 6) (Nat.le_of_ble_eq_true rfl) (Nat.le_of_ble_eq_true rfl) ?_
    exact W.iret (v := r2) hx hb hr (fun t ht hW => ⟨⟨r2, u3, rfl, h9.symm, by rw [ht]; exact hP, va_K.moved hW.alike hK, hD⟩, hS.F ht⟩) hS.2.2 d_Q_count_51
  have hF := qs_neg c1 hF
  by_cases c4 : a1 = 1
  · have hF := qs_pos c4 hF
    refine lv_tableIn (tgt := 52) hx hb d_Q_count_1 (by rw [c4]; decide) (by rw [c4]; decide) (by rw [c4]; rfl) (by decide) ?_
    refine lv_aload_n hx hb d_Q_count_52 rfl (lv_at hl 0 rfl) ?_
    refine va_get (D := (dC, dI)) (ci := 6) (v := .ref (h 2)) (C := R_Q) (T := T_Q) (N := 6) hx hb hg in_Q hown hK hP 0 rfl rfl 1 (by decide) (hg _ t_157) (fun _ h9 => h9) rfl d_Q_count_53 ?_
    refine va_getN (D := (dC, dI)) (ci := 1) (v := .int (g 20 0)) (C := R_W) (T := T_W) (N := 3) hx hb hg in_W hown hK hP 2 rfl rfl 2 (by decide) (va_Nw.use rfl (nF_0 hNs)) (fun _ h9 => h9) rfl d_Q_count_56 ?_
    have h9 := Option.some.inj hF
    refine vx_ret ?_
    refine W.widen (k := 1) (n := 6) (Nat.le_of_ble_eq_true rfl) (Nat.le_of_ble_eq_true rfl) ?_
    exact W.iret (v := g 20 0) hx hb hr (fun t ht hW => ⟨⟨(g 20 0), g, rfl, h9.symm, by rw [ht]; exact hP, va_K.moved hW.alike hK, hD⟩, hS.F ht⟩) hS.2.2 d_Q_count_59
  have hF := qs_neg c4 hF
  by_cases c5 : a1 = 2
  · have hF := qs_pos c5 hF
    refine lv_tableIn (tgt := 60) hx hb d_Q_count_1 (by rw [c5]; decide) (by rw [c5]; decide) (by rw [c5]; rfl) (by decide) ?_
    refine lv_aload_n hx hb d_Q_count_60 rfl (lv_at hl 0 rfl) ?_
    refine va_get (D := (dC, dI)) (ci := 6) (v := .ref (h 4)) (C := R_Q) (T := T_Q) (N := 6) hx hb hg in_Q hown hK hP 0 rfl rfl 3 (by decide) (hg _ t_159) (fun _ h9 => h9) rfl d_Q_count_61 ?_
    refine va_getN (D := (dC, dI)) (ci := 3) (v := .int (g 23 0)) (C := R_M) (T := T_M) (N := 11) hx hb hg in_M hown hK hP 4 rfl rfl 7 (by decide) (va_Nw.use rfl (nF_5 hNs)) (fun _ h9 => h9) rfl d_Q_count_64 ?_
    have h9 := Option.some.inj hF
    refine vx_ret ?_
    refine W.widen (k := 1) (n := 6) (Nat.le_of_ble_eq_true rfl) (Nat.le_of_ble_eq_true rfl) ?_
    exact W.iret (v := g 23 0) hx hb hr (fun t ht hW => ⟨⟨(g 23 0), g, rfl, h9.symm, by rw [ht]; exact hP, va_K.moved hW.alike hK, hD⟩, hS.F ht⟩) hS.2.2 d_Q_count_67
  have hF := qs_neg c5 hF
  by_cases c6 : a1 = 3
  · have hF := qs_pos c6 hF
    refine lv_tableIn (tgt := 68) hx hb d_Q_count_1 (by rw [c6]; decide) (by rw [c6]; decide) (by rw [c6]; rfl) (by decide) ?_
    refine lv_aload_n hx hb d_Q_count_68 rfl (lv_at hl 0 rfl) ?_
    refine va_get (D := (dC, dI)) (ci := 6) (v := .ref (h 4)) (C := R_Q) (T := T_Q) (N := 6) hx hb hg in_Q hown hK hP 0 rfl rfl 3 (by decide) (hg _ t_159) (fun _ h9 => h9) rfl d_Q_count_69 ?_
    refine va_getN (D := (dC, dI)) (ci := 3) (v := .int (g 25 0)) (C := R_M) (T := T_M) (N := 11) hx hb hg in_M hown hK hP 4 rfl rfl 9 (by decide) (va_Nw.use rfl (nF_7 hNs)) (fun _ h9 => h9) rfl d_Q_count_72 ?_
    have h9 := Option.some.inj hF
    refine vx_ret ?_
    refine W.widen (k := 1) (n := 6) (Nat.le_of_ble_eq_true rfl) (Nat.le_of_ble_eq_true rfl) ?_
    exact W.iret (v := g 25 0) hx hb hr (fun t ht hW => ⟨⟨(g 25 0), g, rfl, h9.symm, by rw [ht]; exact hP, va_K.moved hW.alike hK, hD⟩, hS.F ht⟩) hS.2.2 d_Q_count_75
  have hF := qs_neg c6 hF
  by_cases c7 : a1 = 4
  · have hF := qs_pos c7 hF
    refine lv_tableIn (tgt := 76) hx hb d_Q_count_1 (by rw [c7]; decide) (by rw [c7]; decide) (by rw [c7]; rfl) (by decide) ?_
    refine lv_aload_n hx hb d_Q_count_76 rfl (lv_at hl 0 rfl) ?_
    refine va_get (D := (dC, dI)) (ci := 6) (v := .ref (h 4)) (C := R_Q) (T := T_Q) (N := 6) hx hb hg in_Q hown hK hP 0 rfl rfl 3 (by decide) (hg _ t_159) (fun _ h9 => h9) rfl d_Q_count_77 ?_
    refine va_getN (D := (dC, dI)) (ci := 3) (v := .int (g 24 0)) (C := R_M) (T := T_M) (N := 11) hx hb hg in_M hown hK hP 4 rfl rfl 8 (by decide) (va_Nw.use rfl (nF_6 hNs)) (fun _ h9 => h9) rfl d_Q_count_80 ?_
    have h9 := Option.some.inj hF
    refine vx_ret ?_
    refine W.widen (k := 1) (n := 6) (Nat.le_of_ble_eq_true rfl) (Nat.le_of_ble_eq_true rfl) ?_
    exact W.iret (v := g 24 0) hx hb hr (fun t ht hW => ⟨⟨(g 24 0), g, rfl, h9.symm, by rw [ht]; exact hP, va_K.moved hW.alike hK, hD⟩, hS.F ht⟩) hS.2.2 d_Q_count_83
  have hF := qs_neg c7 hF
  by_cases c8 : a1 = 5
  · have hF := qs_pos c8 hF
    refine lv_tableIn (tgt := 84) hx hb d_Q_count_1 (by rw [c8]; decide) (by rw [c8]; decide) (by rw [c8]; rfl) (by decide) ?_
    refine lv_aload_n hx hb d_Q_count_84 rfl (lv_at hl 0 rfl) ?_
    refine va_get (D := (dC, dI)) (ci := 6) (v := .ref (h 4)) (C := R_Q) (T := T_Q) (N := 6) hx hb hg in_Q hown hK hP 0 rfl rfl 3 (by decide) (hg _ t_159) (fun _ h9 => h9) rfl d_Q_count_85 ?_
    refine va_getN (D := (dC, dI)) (ci := 3) (v := .int (g 26 0)) (C := R_M) (T := T_M) (N := 11) hx hb hg in_M hown hK hP 4 rfl rfl 10 (by decide) (va_Nw.use rfl (nF_8 hNs)) (fun _ h9 => h9) rfl d_Q_count_88 ?_
    have h9 := Option.some.inj hF
    refine vx_ret ?_
    refine W.widen (k := 1) (n := 6) (Nat.le_of_ble_eq_true rfl) (Nat.le_of_ble_eq_true rfl) ?_
    exact W.iret (v := g 26 0) hx hb hr (fun t ht hW => ⟨⟨(g 26 0), g, rfl, h9.symm, by rw [ht]; exact hP, va_K.moved hW.alike hK, hD⟩, hS.F ht⟩) hS.2.2 d_Q_count_91
  have hF := qs_neg c8 hF
  by_cases c9 : a1 = 6
  · have hF := qs_pos c9 hF
    refine lv_tableIn (tgt := 92) hx hb d_Q_count_1 (by rw [c9]; decide) (by rw [c9]; decide) (by rw [c9]; rfl) (by decide) ?_
    refine lv_aload_n hx hb d_Q_count_92 rfl (lv_at hl 0 rfl) ?_
    refine va_get (D := (dC, dI)) (ci := 6) (v := .ref (h 5)) (C := R_Q) (T := T_Q) (N := 6) hx hb hg in_Q hown hK hP 0 rfl rfl 4 (by decide) (hg _ t_160) (fun _ h9 => h9) rfl d_Q_count_93 ?_
    refine va_getN (D := (dC, dI)) (ci := 4) (v := .int (g 27 0)) (C := R_V) (T := T_V) (N := 6) hx hb hg in_V hown hK hP 5 rfl rfl 3 (by decide) (va_Nw.use rfl (nF_9 hNs)) (fun _ h9 => h9) rfl d_Q_count_96 ?_
    have h9 := Option.some.inj hF
    refine vx_ret ?_
    refine W.widen (k := 1) (n := 6) (Nat.le_of_ble_eq_true rfl) (Nat.le_of_ble_eq_true rfl) ?_
    exact W.iret (v := g 27 0) hx hb hr (fun t ht hW => ⟨⟨(g 27 0), g, rfl, h9.symm, by rw [ht]; exact hP, va_K.moved hW.alike hK, hD⟩, hS.F ht⟩) hS.2.2 d_Q_count_99
  have hF := qs_neg c9 hF
  refine lv_tableOut (tgt := 100) hx hb d_Q_count_1 (by have := lv_neT (a := 0) c1 (by decide); have := lv_neT (a := 1) c4 (by decide); have := lv_neT (a := 2) c5 (by decide); have := lv_neT (a := 3) c6 (by decide); have := lv_neT (a := 4) c7 (by decide); have := lv_neT (a := 5) c8 (by decide); have := lv_neT (a := 6) c9 (by decide); omega) (by decide) ?_
  have h9 := Option.some.inj hF
  exact vx_throwS (text := "nothing of that number is counted") (names := ["java/lang/RuntimeException", "java/lang/Exception"]) hx hb hl9 hown (by decide +kernel) (by decide +kernel) (hg _ t_215) (hg _ t_12) hs201 (ha_Q_65 hg hNs) hd_Q_65 hU hN hS (hl.1.trans hml.symm) d_Q_count_100 d_Q_count_103 d_Q_count_104 d_Q_count_106 d_Q_count_109 (fun x h => (ht x h).elim) (Nat.le_of_ble_eq_true rfl) (Nat.le_of_ble_eq_true rfl) (Nat.le_of_ble_eq_true rfl) (Nat.le_of_ble_eq_true rfl) hlocks (fun t hvm hz hk => ⟨g, trivial, ⟨⟨h9.symm, by decide⟩, hP.kept (fun k q hq => hk q.1 (hP k q hq).lt), va_K.moved hvm hK, hD⟩, qs_F hS hz hk⟩) hS.2.2 (Nat.le_refl _) (Nat.le_refl _)
end
