theorem t_206 : Jvm.Cond.classLink "QuakeServerLaw" (13 : Nat) "java/lang/IllegalArgumentException" ∈ qs_gt := qs_mem 206 (by decide +kernel) (by decide +kernel)
theorem t_207 : Jvm.Cond.classLink "QuakeServerLaw" (15 : Nat) "java/lang/IllegalStateException" ∈ qs_gt := qs_mem 207 (by decide +kernel) (by decide +kernel)
theorem t_208 : Jvm.Cond.methodLink "QuakeServerLaw" (7 : Nat) ({ cls := "QuakeServer", name := "wall", desc := "(IIII)I" } : Jvm.MethodName) ∈ qs_gt := qs_mem 208 (by decide +kernel) (by decide +kernel)
theorem t_209 : Jvm.Cond.instanceMethod ({ cls := "QuakeServer", name := "wall", desc := "(IIII)I" } : Jvm.MethodName) ∈ qs_gt := qs_mem 209 (by decide +kernel) (by decide +kernel)
theorem t_210 : Jvm.Cond.selects "QuakeServer" ({ cls := "QuakeServer", name := "wall", desc := "(IIII)I" } : Jvm.MethodName) ({ cls := "QuakeServer", name := "wall", desc := "(IIII)I" } : Jvm.MethodName) ∈ qs_gt := qs_mem 210 (by decide +kernel) (by decide +kernel)
theorem t_211 : Jvm.Cond.code ({ cls := "QuakeServer", name := "wall", desc := "(IIII)I" } : Jvm.MethodName) prog_1_method_2_code (5 : Nat) (Option.some Jvm.ClassFile.FieldType.int) ∈ qs_gt := qs_mem 211 (by decide +kernel) (by decide +kernel)
theorem t_307 : Jvm.Cond.methodLink "QuakeServerLaw" (17 : Nat) ({ cls := "QuakeServer", name := "instr", desc := "(IIIII)I" } : Jvm.MethodName) ∈ qs_gt := qs_mem 307 (by decide +kernel) (by decide +kernel)
theorem t_308 : Jvm.Cond.instanceMethod ({ cls := "QuakeServer", name := "instr", desc := "(IIIII)I" } : Jvm.MethodName) ∈ qs_gt := qs_mem 308 (by decide +kernel) (by decide +kernel)
theorem t_309 : Jvm.Cond.selects "QuakeServer" ({ cls := "QuakeServer", name := "instr", desc := "(IIIII)I" } : Jvm.MethodName) ({ cls := "QuakeServer", name := "instr", desc := "(IIIII)I" } : Jvm.MethodName) ∈ qs_gt := qs_mem 309 (by decide +kernel) (by decide +kernel)
theorem t_310 : Jvm.Cond.code ({ cls := "QuakeServer", name := "instr", desc := "(IIIII)I" } : Jvm.MethodName) prog_1_method_3_code (6 : Nat) (Option.some Jvm.ClassFile.FieldType.int) ∈ qs_gt := qs_mem 310 (by decide +kernel) (by decide +kernel)
theorem t_335 : Jvm.Cond.methodLink "QuakeServerLaw" (21 : Nat) ({ cls := "QuakeServer", name := "spawn", desc := "(DDD)I" } : Jvm.MethodName) ∈ qs_gt := qs_mem 335 (by decide +kernel) (by decide +kernel)
theorem t_336 : Jvm.Cond.instanceMethod ({ cls := "QuakeServer", name := "spawn", desc := "(DDD)I" } : Jvm.MethodName) ∈ qs_gt := qs_mem 336 (by decide +kernel) (by decide +kernel)
theorem t_337 : Jvm.Cond.selects "QuakeServer" ({ cls := "QuakeServer", name := "spawn", desc := "(DDD)I" } : Jvm.MethodName) ({ cls := "QuakeServer", name := "spawn", desc := "(DDD)I" } : Jvm.MethodName) ∈ qs_gt := qs_mem 337 (by decide +kernel) (by decide +kernel)
theorem t_338 : Jvm.Cond.code ({ cls := "QuakeServer", name := "spawn", desc := "(DDD)I" } : Jvm.MethodName) prog_1_method_4_code (8 : Nat) (Option.some Jvm.ClassFile.FieldType.int) ∈ qs_gt := qs_mem 338 (by decide +kernel) (by decide +kernel)
theorem t_362 : Jvm.Cond.classLink "QuakeServerLaw" (29 : Nat) "java/util/NoSuchElementException" ∈ qs_gt := qs_mem 362 (by decide +kernel) (by decide +kernel)
theorem t_363 : Jvm.Cond.methodLink "QuakeServerLaw" (25 : Nat) ({ cls := "QuakeServer", name := "remove", desc := "(I)I" } : Jvm.MethodName) ∈ qs_gt := qs_mem 363 (by decide +kernel) (by decide +kernel)
theorem t_364 : Jvm.Cond.instanceMethod ({ cls := "QuakeServer", name := "remove", desc := "(I)I" } : Jvm.MethodName) ∈ qs_gt := qs_mem 364 (by decide +kernel) (by decide +kernel)
theorem t_365 : Jvm.Cond.selects "QuakeServer" ({ cls := "QuakeServer", name := "remove", desc := "(I)I" } : Jvm.MethodName) ({ cls := "QuakeServer", name := "remove", desc := "(I)I" } : Jvm.MethodName) ∈ qs_gt := qs_mem 365 (by decide +kernel) (by decide +kernel)
theorem t_366 : Jvm.Cond.code ({ cls := "QuakeServer", name := "remove", desc := "(I)I" } : Jvm.MethodName) prog_1_method_5_code (2 : Nat) (Option.some Jvm.ClassFile.FieldType.int) ∈ qs_gt := qs_mem 366 (by decide +kernel) (by decide +kernel)
theorem t_391 : Jvm.Cond.methodLink "QuakeServerLaw" (31 : Nat) ({ cls := "QuakeServer", name := "set", desc := "(IID)D" } : Jvm.MethodName) ∈ qs_gt := qs_mem 391 (by decide +kernel) (by decide +kernel)
theorem t_392 : Jvm.Cond.instanceMethod ({ cls := "QuakeServer", name := "set", desc := "(IID)D" } : Jvm.MethodName) ∈ qs_gt := qs_mem 392 (by decide +kernel) (by decide +kernel)
theorem t_393 : Jvm.Cond.selects "QuakeServer" ({ cls := "QuakeServer", name := "set", desc := "(IID)D" } : Jvm.MethodName) ({ cls := "QuakeServer", name := "set", desc := "(IID)D" } : Jvm.MethodName) ∈ qs_gt := qs_mem 393 (by decide +kernel) (by decide +kernel)
theorem t_394 : Jvm.Cond.code ({ cls := "QuakeServer", name := "set", desc := "(IID)D" } : Jvm.MethodName) prog_1_method_6_code (7 : Nat) (Option.some Jvm.ClassFile.FieldType.double) ∈ qs_gt := qs_mem 394 (by decide +kernel) (by decide +kernel)
theorem t_403 : Jvm.Cond.methodLink "QuakeServerLaw" (35 : Nat) ({ cls := "QuakeServer", name := "get", desc := "(II)D" } : Jvm.MethodName) ∈ qs_gt := qs_mem 403 (by decide +kernel) (by decide +kernel)
theorem t_404 : Jvm.Cond.instanceMethod ({ cls := "QuakeServer", name := "get", desc := "(II)D" } : Jvm.MethodName) ∈ qs_gt := qs_mem 404 (by decide +kernel) (by decide +kernel)
theorem t_405 : Jvm.Cond.selects "QuakeServer" ({ cls := "QuakeServer", name := "get", desc := "(II)D" } : Jvm.MethodName) ({ cls := "QuakeServer", name := "get", desc := "(II)D" } : Jvm.MethodName) ∈ qs_gt := qs_mem 405 (by decide +kernel) (by decide +kernel)
theorem t_406 : Jvm.Cond.code ({ cls := "QuakeServer", name := "get", desc := "(II)D" } : Jvm.MethodName) prog_1_method_7_code (3 : Nat) (Option.some Jvm.ClassFile.FieldType.double) ∈ qs_gt := qs_mem 406 (by decide +kernel) (by decide +kernel)
theorem t_411 : Jvm.Cond.methodLink "QuakeServerLaw" (39 : Nat) ({ cls := "QuakeServer", name := "setGlobal", desc := "(II)I" } : Jvm.MethodName) ∈ qs_gt := qs_mem 411 (by decide +kernel) (by decide +kernel)
theorem t_412 : Jvm.Cond.instanceMethod ({ cls := "QuakeServer", name := "setGlobal", desc := "(II)I" } : Jvm.MethodName) ∈ qs_gt := qs_mem 412 (by decide +kernel) (by decide +kernel)
theorem t_413 : Jvm.Cond.selects "QuakeServer" ({ cls := "QuakeServer", name := "setGlobal", desc := "(II)I" } : Jvm.MethodName) ({ cls := "QuakeServer", name := "setGlobal", desc := "(II)I" } : Jvm.MethodName) ∈ qs_gt := qs_mem 413 (by decide +kernel) (by decide +kernel)
theorem t_414 : Jvm.Cond.code ({ cls := "QuakeServer", name := "setGlobal", desc := "(II)I" } : Jvm.MethodName) prog_1_method_8_code (4 : Nat) (Option.some Jvm.ClassFile.FieldType.int) ∈ qs_gt := qs_mem 414 (by decide +kernel) (by decide +kernel)
theorem t_421 : Jvm.Cond.methodLink "QuakeServerLaw" (43 : Nat) ({ cls := "QuakeServer", name := "global", desc := "(I)I" } : Jvm.MethodName) ∈ qs_gt := qs_mem 421 (by decide +kernel) (by decide +kernel)
theorem t_422 : Jvm.Cond.instanceMethod ({ cls := "QuakeServer", name := "global", desc := "(I)I" } : Jvm.MethodName) ∈ qs_gt := qs_mem 422 (by decide +kernel) (by decide +kernel)
theorem t_423 : Jvm.Cond.selects "QuakeServer" ({ cls := "QuakeServer", name := "global", desc := "(I)I" } : Jvm.MethodName) ({ cls := "QuakeServer", name := "global", desc := "(I)I" } : Jvm.MethodName) ∈ qs_gt := qs_mem 423 (by decide +kernel) (by decide +kernel)
theorem t_424 : Jvm.Cond.code ({ cls := "QuakeServer", name := "global", desc := "(I)I" } : Jvm.MethodName) prog_1_method_9_code (2 : Nat) (Option.some Jvm.ClassFile.FieldType.int) ∈ qs_gt := qs_mem 424 (by decide +kernel) (by decide +kernel)
theorem t_429 : Jvm.Cond.methodLink "QuakeServerLaw" (46 : Nat) ({ cls := "QuakeServer", name := "run", desc := "(III)I" } : Jvm.MethodName) ∈ qs_gt := qs_mem 429 (by decide +kernel) (by decide +kernel)
theorem t_430 : Jvm.Cond.instanceMethod ({ cls := "QuakeServer", name := "run", desc := "(III)I" } : Jvm.MethodName) ∈ qs_gt := qs_mem 430 (by decide +kernel) (by decide +kernel)
theorem t_431 : Jvm.Cond.selects "QuakeServer" ({ cls := "QuakeServer", name := "run", desc := "(III)I" } : Jvm.MethodName) ({ cls := "QuakeServer", name := "run", desc := "(III)I" } : Jvm.MethodName) ∈ qs_gt := qs_mem 431 (by decide +kernel) (by decide +kernel)
theorem t_432 : Jvm.Cond.code ({ cls := "QuakeServer", name := "run", desc := "(III)I" } : Jvm.MethodName) prog_1_method_10_code (4 : Nat) (Option.some Jvm.ClassFile.FieldType.int) ∈ qs_gt := qs_mem 432 (by decide +kernel) (by decide +kernel)
theorem t_495 : Jvm.Cond.methodLink "QuakeServerLaw" (50 : Nat) ({ cls := "QuakeServer", name := "tick", desc := "(I)I" } : Jvm.MethodName) ∈ qs_gt := qs_mem 495 (by decide +kernel) (by decide +kernel)
theorem t_496 : Jvm.Cond.instanceMethod ({ cls := "QuakeServer", name := "tick", desc := "(I)I" } : Jvm.MethodName) ∈ qs_gt := qs_mem 496 (by decide +kernel) (by decide +kernel)
theorem t_497 : Jvm.Cond.selects "QuakeServer" ({ cls := "QuakeServer", name := "tick", desc := "(I)I" } : Jvm.MethodName) ({ cls := "QuakeServer", name := "tick", desc := "(I)I" } : Jvm.MethodName) ∈ qs_gt := qs_mem 497 (by decide +kernel) (by decide +kernel)
theorem t_498 : Jvm.Cond.code ({ cls := "QuakeServer", name := "tick", desc := "(I)I" } : Jvm.MethodName) prog_1_method_11_code (4 : Nat) (Option.some Jvm.ClassFile.FieldType.int) ∈ qs_gt := qs_mem 498 (by decide +kernel) (by decide +kernel)
theorem t_595 : Jvm.Cond.methodLink "QuakeServerLaw" (53 : Nat) ({ cls := "QuakeServer", name := "change", desc := "(I)I" } : Jvm.MethodName) ∈ qs_gt := qs_mem 595 (by decide +kernel) (by decide +kernel)
theorem t_596 : Jvm.Cond.instanceMethod ({ cls := "QuakeServer", name := "change", desc := "(I)I" } : Jvm.MethodName) ∈ qs_gt := qs_mem 596 (by decide +kernel) (by decide +kernel)
theorem t_597 : Jvm.Cond.selects "QuakeServer" ({ cls := "QuakeServer", name := "change", desc := "(I)I" } : Jvm.MethodName) ({ cls := "QuakeServer", name := "change", desc := "(I)I" } : Jvm.MethodName) ∈ qs_gt := qs_mem 597 (by decide +kernel) (by decide +kernel)
theorem t_598 : Jvm.Cond.code ({ cls := "QuakeServer", name := "change", desc := "(I)I" } : Jvm.MethodName) prog_1_method_13_code (3 : Nat) (Option.some Jvm.ClassFile.FieldType.int) ∈ qs_gt := qs_mem 598 (by decide +kernel) (by decide +kernel)
theorem t_607 : Jvm.Cond.methodLink "QuakeServerLaw" (56 : Nat) ({ cls := "QuakeServer", name := "count", desc := "(I)I" } : Jvm.MethodName) ∈ qs_gt := qs_mem 607 (by decide +kernel) (by decide +kernel)
theorem t_608 : Jvm.Cond.instanceMethod ({ cls := "QuakeServer", name := "count", desc := "(I)I" } : Jvm.MethodName) ∈ qs_gt := qs_mem 608 (by decide +kernel) (by decide +kernel)
theorem t_609 : Jvm.Cond.selects "QuakeServer" ({ cls := "QuakeServer", name := "count", desc := "(I)I" } : Jvm.MethodName) ({ cls := "QuakeServer", name := "count", desc := "(I)I" } : Jvm.MethodName) ∈ qs_gt := qs_mem 609 (by decide +kernel) (by decide +kernel)
theorem t_610 : Jvm.Cond.code ({ cls := "QuakeServer", name := "count", desc := "(I)I" } : Jvm.MethodName) prog_1_method_15_code (2 : Nat) (Option.some Jvm.ClassFile.FieldType.int) ∈ qs_gt := qs_mem 610 (by decide +kernel) (by decide +kernel)
abbrev qs_wh (y : MethodName) (b : ByteArray) (n : Nat) (r : Option FieldType) (hh : List (Nat × Nat × Nat × Nat)) : List Cond := Cond.codeWith y b n r hh :: qs_gt
theorem qs_gw {y : MethodName} {b : ByteArray} {n : Nat} {r : Option FieldType} {hh : List (Nat × Nat × Nat × Nat)} (h : Cond.codeWith y b n r hh ∈ qs_gt) : GoodIn qs_gt (qs_wh y b n r hh) := fun w hw => by
  rcases List.mem_cons.mp hw with rfl | hw
  · exact qs_in1 h
  · exact qs_in1 hw
def qa_code {α : Type} (es : List String) (r : (String × Sg) ⊕ (α × Sg)) : Int32 := match r with
  | .inr _ => 0
  | .inl q => Int32.ofNat (es.idxOf q.1 + 1)
def qa_st {α : Type} (r : (String × Sg) ⊕ (α × Sg)) : Sg := match r with
  | .inr q => q.2
  | .inl q => q.2
def qa_out (r : (String × Sg) ⊕ (Int32 × Sg)) (f : Nat → Int64) : Nat → Int64 := match r with
  | .inr q => vp_updL f 0 q.1.toInt64
  | .inl _ => f
def qa_outd (r : (String × Sg) ⊕ (UInt64 × Sg)) (f : Nat → UInt64) : Nat → UInt64 := match r with
  | .inr q => vf_upd f 0 q.1
  | .inl _ => f
abbrev qa_W (h : Nat → Nat) (c : Nat → ClassId) (o : Nat) (co : ClassId) (u : Sg × (Nat → Int64)) : va_W := qs_W h c u.1 ++ [(o, .inl (co, 1, .inr (.inl u.2)))]
abbrev qd_W (h : Nat → Nat) (c : Nat → ClassId) (o : Nat) (co : ClassId) (u : Sg × (Nat → UInt64)) : va_W := qs_W h c u.1 ++ [(o, .inl (co, 1, .inr (.inr (.inr (.inl u.2)))))]
abbrev qa_T (c : Nat → ClassId) (co : ClassId) : List (ClassId × FieldType) := qs_T c ++ [(co, .long)]
abbrev qd_T (c : Nat → ClassId) (co : ClassId) : List (ClassId × FieldType) := qs_T c ++ [(co, .double)]
theorem qa_in0 : vp_in (0 : Int32) 1 := show ¬ ((0 : Int32) < 0 ∨ 1 ≤ (0 : Int32).toNatClampNeg) by decide

theorem d_A_wall_0 : decode b_A_wall 0 = .ok (.aload 5, 2) := by decide +kernel
theorem d_A_wall_2 : decode b_A_wall 2 = .ok (.iconst 0, 1) := by decide +kernel
theorem d_A_wall_3 : decode b_A_wall 3 = .ok (.aload_n 0, 1) := by decide +kernel
theorem d_A_wall_4 : decode b_A_wall 4 = .ok (.iload_n 1, 1) := by decide +kernel
theorem d_A_wall_5 : decode b_A_wall 5 = .ok (.iload_n 2, 1) := by decide +kernel
theorem d_A_wall_6 : decode b_A_wall 6 = .ok (.iload_n 3, 1) := by decide +kernel
theorem d_A_wall_7 : decode b_A_wall 7 = .ok (.iload 4, 2) := by decide +kernel
theorem d_A_wall_9 : decode b_A_wall 9 = .ok (.invokevirtual 7, 3) := by decide +kernel
theorem d_A_wall_12 : decode b_A_wall 12 = .ok (.i2l, 1) := by decide +kernel
theorem d_A_wall_13 : decode b_A_wall 13 = .ok (.lastore, 1) := by decide +kernel
theorem d_A_wall_14 : decode b_A_wall 14 = .ok (.goto 11, 3) := by decide +kernel
theorem d_A_wall_17 : decode b_A_wall 17 = .ok (.astore 6, 2) := by decide +kernel
theorem d_A_wall_19 : decode b_A_wall 19 = .ok (.iconst 1, 1) := by decide +kernel
theorem d_A_wall_20 : decode b_A_wall 20 = .ok (.ireturn, 1) := by decide +kernel
theorem d_A_wall_21 : decode b_A_wall 21 = .ok (.astore 6, 2) := by decide +kernel
theorem d_A_wall_23 : decode b_A_wall 23 = .ok (.iconst 2, 1) := by decide +kernel
theorem d_A_wall_24 : decode b_A_wall 24 = .ok (.ireturn, 1) := by decide +kernel
theorem d_A_wall_25 : decode b_A_wall 25 = .ok (.iconst 0, 1) := by decide +kernel
theorem d_A_wall_26 : decode b_A_wall 26 = .ok (.ireturn, 1) := by decide +kernel
set_option maxHeartbeats 4000000 in
set_option maxRecDepth 100000 in
theorem c_A_wall (l : Launch) (hl9 : l.stackTraces = false) (dC : Nat → ClassId) (dI : Nat → Nat → Nat) (h : Nat → Nat) (c : Nat → ClassId) (sz o : Nat) (co : ClassId) (sa63 : Nat) (sa68 : Nat) (sa76 : Nat) (g : Sg) (fo : Nat → Int64) (a1 : Int32) (a2 : Int32) (a3 : Int32) (a4 : Int32) (r0 : ((String × Sg) ⊕ (Int32 × Sg))) (hF : f_Q_wall g a1 a2 a3 a4 = some r0) : Met l y_A_wall (qs_wh y_A_wall b_A_wall 7 (some .int) [(0, 14, 17, 13), (0, 14, 21, 15)]) ({ frames := 7, cells := 1, slots := 6, locals := 106 } : Room) (va_Pc ([.ref (h 0), .int a1, .int a2, .int a3, .int a4, .ref o] : List Value) (fun U => U.heap.size = sz ∧ va_P (dC, dI) vwCl (qa_W h c o co (g, fo)) U.heap ∧ va_K (dC, dI) vwCl (qa_T c co) U ∧ va_D (fun _ => True) (qa_W h c o co (g, fo)) ∧ qs_N U ∧ vx_Zq Bundle.tN "UNASSIGNED_STACK" Bundle.steD (va_A (qa_W h c o co (g, fo)) sz) U U.heap ∧ vx_Zq Bundle.tN "SUPPRESSED_SENTINEL" Bundle.listD (va_A (qa_W h c o co (g, fo)) sz) U U.heap ∧ va_Nc "java/lang/IllegalStateException" "java/lang/IllegalArgumentException" U ∧ va_Nc "java/lang/IllegalArgumentException" "java/util/NoSuchElementException" U ∧ vk_R R_Q 63 "a wall\'s side is not -1024 .. 1024" sa63 U ∧ vk_R R_Q 68 "a wall ends where it begins, or before" sa68 U ∧ vk_R R_Q 76 "all walls are there" sa76 U)) (va_Qi (fun (r : Int32) (u : Sg × (Nat → Int64)) => r = qa_code (["java/lang/IllegalArgumentException", "java/lang/IllegalStateException"] : List String) r0 ∧ u = (qa_st r0, qa_out r0 fo)) (fun u t => va_P (dC, dI) vwCl (qa_W h c o co u) t.heap ∧ va_K (dC, dI) vwCl (qa_T c co) t ∧ va_D (va_A (qa_W h c o co (g, fo)) sz) (qa_W h c o co u)) (va_A (qa_W h c o co (g, fo)) sz)) 1 6 (va_A (qa_W h c o co (g, fo)) sz) := by
  refine va_MetW (cc := b_A_wall) (maxL := 7) (ret := (some .int)) (hh := [(0, 14, 17, 13), (0, 14, 21, 15)]) (by decide +kernel) rfl ?_
  intro p e s m args below meth cd s₁ B hml hv
  obtain ⟨rfl, hsz, hP, hK, hD0, hNs, hU, hN, hc1, hc2, hs63, hs68, hs76⟩ := hv
  have hx := B.exec
  have hb := B.bytes
  have hr := B.returns
  have hts := atoms_spec (ws := (qs_wh y_A_wall b_A_wall 7 (some .int) [(0, 14, 17, 13), (0, 14, 21, 15)])) B.pre
  have hg : ∀ w ∈ qs_gt, w.before _ s = true := fun w h => hts w (List.mem_cons_of_mem _ h)
  have htab : cd.exceptionTable.toList = tableOf [(0, 14, 17, 13), (0, 14, 21, 15)] := vx_table (x := y_A_wall) B (hts _ List.mem_cons_self)
  have hown : s.vm.findClass R_A = some m.cls := findClass_of_methodNamed B.named
  have hlocks := B.notSynchronized
  subst hsz
  have hD := hD0.self (sz := s.heap.size)
  generalize hAe : va_A (qa_W h c o co (g, fo)) s.heap.size = A at hD hU hN ⊢
  have hA : ∀ q : Nat, s.heap.size ≤ q → A q := fun q h => by rw [← hAe]; exact Or.inr h
  have hS : va_S A s.heap s.heap [] := va_S.rf
  have hl := lv_entry ([.ref (h 0), .int a1, .int a2, .int a3, .int a4, .ref o] : List Value) (n := 7) (Nat.le_of_ble_eq_true rfl)
  rw [lg_entry_eq]
  generalize (lg_sl ([.ref (h 0), .int a1, .int a2, .int a3, .int a4, .ref o] : List Value) ++ List.replicate (7 - (lg_sl ([.ref (h 0), .int a1, .int a2, .int a3, .int a4, .ref o] : List Value)).length) Slot.unset).toArray = ls at hl ⊢
  have hl : lv_has ls 7 [(0, .ref (h 0)), (1, .int a1), (2, .int a2), (3, .int a3), (4, .int a4), (5, .ref o)] := hl
  obtain ⟨H, hHe⟩ : ∃ H, H = s.heap := ⟨_, rfl⟩
  obtain ⟨locs, hLe⟩ : ∃ L : List Loc, L = [] := ⟨_, rfl⟩
  rw [← hHe] at hP ⊢
  rw [← hLe]
  have hS : va_S A s.heap H locs := by rw [hHe, hLe]; exact hS
  refine lv_aload hx hb d_A_wall_0 (lv_at hl 5 rfl) ?_
  refine lv_iconst (v := 0) hx hb d_A_wall_2 (by decide) ?_
  refine lv_aload_n hx hb d_A_wall_3 rfl (lv_at hl 0 rfl) ?_
  refine lv_iload_n hx hb d_A_wall_4 rfl (lv_at hl 1 rfl) ?_
  refine lv_iload_n hx hb d_A_wall_5 rfl (lv_at hl 2 rfl) ?_
  refine lv_iload_n hx hb d_A_wall_6 rfl (lv_at hl 3 rfl) ?_
  refine lv_iload hx hb d_A_wall_7 (lv_at hl 4 rfl) ?_
  have hPc := hP.sub (ws' := qs_W h c g) [0, 1, 2, 3, 4, 5, 6, 7, 8, 9, 10, 11, 12, 13, 14, 15, 16] rfl
  have hDc := hD.sub (ws' := qs_W h c g) [0, 1, 2, 3, 4, 5, 6, 7, 8, 9, 10, 11, 12, 13, 14, 15, 16] (by decide) rfl
  have hKc := hK.sub (tys' := qs_T c) [0, 1, 2, 3, 4, 5, 6, 7, 8, 9] rfl
  have hFc := va_free (wc := qs_W h c g) hD hS hA [0, 1, 2, 3, 4, 5, 6, 7, 8, 9, 10, 11, 12, 13, 14, 15, 16] rfl
  refine vx_calli (vx_runV (own := "QuakeServerLaw") (C := "QuakeServer") (As := [.int a1, .int a2, .int a3, .int a4]) (rest := [.int 0, .ref o]) ⟨hx, hb, hml, hown, hg⟩ (c_Q_wall l hl9 dC dI h c H.size sa63 sa68 sa76 g a1 a2 a3 a4 r0 hF) (cwV 4 hg (qs_gV t_208 t_209 t_210 t_1 t_211) rfl rfl rfl (by decide +kernel) ⟨Nat.le_of_ble_eq_true rfl, Nat.le_of_ble_eq_true rfl⟩) ⟨fun a U g mk q => by obtain ⟨q0, q1, qP, qK, qD, qN, qU, qS, qs63, qs68, qs76⟩ := q; exact ⟨q0, q1, qP, va_K.moved (u := U) (U := U.calling g mk a) (Vm.Alike.refl U.vm) qK, qD, qs_N.same (s := U) (U := U.calling g mk a) rfl qN, vx_Zq.moved (u := U) (U := U.calling g mk a) (Vm.Alike.refl U.vm) qU, vx_Zq.moved (u := U) (U := U.calling g mk a) (Vm.Alike.refl U.vm) qS, vk_R.same (u := U) (U := U.calling g mk a) rfl qs63, vk_R.same (u := U) (U := U.calling g mk a) rfl qs68, vk_R.same (u := U) (U := U.calling g mk a) rfl qs76⟩, va_recv hKc hPc (ci := 6) (q0 := 0) rfl rfl, fun U9 hU9 hW9 => ⟨rfl, by rw [hU9], by rw [hU9]; exact hPc, va_K.moved hW9.alike hKc, hDc.weaken (fun _ _ _ _ => trivial), hNs.warm hW9, by rw [hU9]; exact vx_Zq.moved hW9.alike ((hU.kept hS.2.1).narrow hFc), by rw [hU9]; exact vx_Zq.moved hW9.alike ((hN.kept hS.2.1).narrow hFc), vk_R.warm hW9 hs63, vk_R.warm hW9 hs68, vk_R.warm hW9 hs76⟩⟩ rfl rfl hl.1 rfl (lv_room (Nat.le_of_ble_eq_true rfl)) d_A_wall_9 ⟨Nat.le_of_ble_eq_true rfl, Nat.le_of_ble_eq_true rfl⟩) hS (fun q _ h => hFc q h) hFc (fun q _ h => hFc q h) (fun E ce q9 u t H1 locs ht hvm _ hB hz hk hS hce hcv hcl => ?_) (fun r u t H1 locs ht hvm hw hB hz hk hS => ?_)
  · obtain ⟨⟨hw, hE⟩, hP1, hK1, hD1⟩ := hB
    rw [ht] at hP1
    obtain ⟨hP, hD⟩ := va_join (wr := [(o, .inl (co, 1, .inr (.inl fo)))]) (w1 := qs_W h c u) hP hD [0, 1, 2, 3, 4, 5, 6, 7, 8, 9, 10, 11, 12, 13, 14, 15, 16] [17] rfl rfl (by decide) (by decide) hk hFc hP1 hD1
    have hP := hP.sub (ws' := qa_W h c o co (u, fo)) [1, 2, 3, 4, 5, 6, 7, 8, 9, 10, 11, 12, 13, 14, 15, 16, 17, 0] rfl
    have hD := hD.sub (ws' := qa_W h c o co (u, fo)) [1, 2, 3, 4, 5, 6, 7, 8, 9, 10, 11, 12, 13, 14, 15, 16, 17, 0] (by decide) rfl
    refine vx_widen (k := 1) (n := 6) (Nat.le_of_ble_eq_true rfl) (Nat.le_of_ble_eq_true rfl) ?_
    simp only [List.mem_cons, List.not_mem_nil, or_false] at hE
    rcases hE with rfl | rfl
    · refine vx_catch (own := "QuakeServerLaw") (name := "java/lang/IllegalArgumentException") hown [] ⟨0, 14, 17, 13⟩ [⟨0, 14, 21, 15⟩] htab (fun z hz => by cases hz) (by decide) (by decide) (hg _ t_206) (va_Nw.use rfl (hNs.2.2.1 ("java/lang/IllegalArgumentException", "java/lang/IllegalArgumentException") (List.mem_of_getElem? (i := 0) rfl))) hce hcv hcl ?_
      refine lv_astore (lv' := [(6, .ref q9), (0, .ref (h 0)), (1, .int a1), (2, .int a2), (3, .int a3), (4, .int a4), (5, .ref o)]) hx hb d_A_wall_17 hl (by decide) rfl (fun ls hl => ?_)
      refine lv_iconst (v := 1) hx hb d_A_wall_19 (by decide) ?_
      exact W.iret (v := 1) hx hb hr (fun t ht hW => ⟨⟨1, (u, fo), rfl, ⟨by rw [hw]; rfl, by rw [hw]; rfl⟩, by rw [ht]; exact hP, va_K.moved hW.alike hK, hD⟩, hS.F ht⟩) hS.2.2 d_A_wall_20
    · refine vx_catch (own := "QuakeServerLaw") (name := "java/lang/IllegalStateException") hown [⟨0, 14, 17, 13⟩] ⟨0, 14, 21, 15⟩ [] htab (fun z hz => by rw [List.mem_singleton.mp hz]; exact Or.inr ⟨by decide, "java/lang/IllegalArgumentException", hg _ t_206, hc1⟩) (by decide) (by decide) (hg _ t_207) (va_Nw.use rfl (hNs.2.2.1 ("java/lang/IllegalStateException", "java/lang/IllegalStateException") (List.mem_of_getElem? (i := 1) rfl))) hce hcv hcl ?_
      refine lv_astore (lv' := [(6, .ref q9), (0, .ref (h 0)), (1, .int a1), (2, .int a2), (3, .int a3), (4, .int a4), (5, .ref o)]) hx hb d_A_wall_21 hl (by decide) rfl (fun ls hl => ?_)
      refine lv_iconst (v := 2) hx hb d_A_wall_23 (by decide) ?_
      exact W.iret (v := 2) hx hb hr (fun t ht hW => ⟨⟨2, (u, fo), rfl, ⟨by rw [hw]; rfl, by rw [hw]; rfl⟩, by rw [ht]; exact hP, va_K.moved hW.alike hK, hD⟩, hS.F ht⟩) hS.2.2 d_A_wall_24
  · obtain ⟨hP1, hK1, hD1⟩ := hB
    rw [ht] at hP1
    obtain ⟨hP, hD⟩ := va_join (wr := [(o, .inl (co, 1, .inr (.inl fo)))]) (w1 := qs_W h c u) hP hD [0, 1, 2, 3, 4, 5, 6, 7, 8, 9, 10, 11, 12, 13, 14, 15, 16] [17] rfl rfl (by decide) (by decide) hk hFc hP1 hD1
    have hP := hP.sub (ws' := qa_W h c o co (u, fo)) [1, 2, 3, 4, 5, 6, 7, 8, 9, 10, 11, 12, 13, 14, 15, 16, 17, 0] rfl
    have hD := hD.sub (ws' := qa_W h c o co (u, fo)) [1, 2, 3, 4, 5, 6, 7, 8, 9, 10, 11, 12, 13, 14, 15, 16, 17, 0] (by decide) rfl
    refine W.widen (k := 1) (n := 6) (Nat.le_of_ble_eq_true rfl) (Nat.le_of_ble_eq_true rfl) ?_
    refine lv_i2l (v := r.toInt64) hx hb d_A_wall_12 rfl ?_
    refine va_last hx hb hK hP hD hS 17 10 rfl rfl qa_in0 d_A_wall_13 (fun H locs hP hD hS => ?_)
    have hP : va_P (dC, dI) vwCl (qa_W h c o co (u, vp_updL fo 0 r.toInt64)) H := hP
    have hD : va_D A (qa_W h c o co (u, vp_updL fo 0 r.toInt64)) := hD
    refine lv_goto (tgt := 25) hx hb d_A_wall_14 (by decide) ?_
    refine lv_iconst (v := 0) hx hb d_A_wall_25 (by decide) ?_
    exact W.iret (v := 0) hx hb hr (fun t ht hW => ⟨⟨0, (u, vp_updL fo 0 r.toInt64), rfl, ⟨by rw [hw]; rfl, by rw [hw]; rfl⟩, by rw [ht]; exact hP, va_K.moved hW.alike hK, hD⟩, hS.F ht⟩) hS.2.2 d_A_wall_26

theorem d_A_instr_0 : decode b_A_instr 0 = .ok (.aload 6, 2) := by decide +kernel
theorem d_A_instr_2 : decode b_A_instr 2 = .ok (.iconst 0, 1) := by decide +kernel
theorem d_A_instr_3 : decode b_A_instr 3 = .ok (.aload_n 0, 1) := by decide +kernel
theorem d_A_instr_4 : decode b_A_instr 4 = .ok (.iload_n 1, 1) := by decide +kernel
theorem d_A_instr_5 : decode b_A_instr 5 = .ok (.iload_n 2, 1) := by decide +kernel
theorem d_A_instr_6 : decode b_A_instr 6 = .ok (.iload_n 3, 1) := by decide +kernel
theorem d_A_instr_7 : decode b_A_instr 7 = .ok (.iload 4, 2) := by decide +kernel
theorem d_A_instr_9 : decode b_A_instr 9 = .ok (.iload 5, 2) := by decide +kernel
theorem d_A_instr_11 : decode b_A_instr 11 = .ok (.invokevirtual 17, 3) := by decide +kernel
theorem d_A_instr_14 : decode b_A_instr 14 = .ok (.i2l, 1) := by decide +kernel
theorem d_A_instr_15 : decode b_A_instr 15 = .ok (.lastore, 1) := by decide +kernel
theorem d_A_instr_16 : decode b_A_instr 16 = .ok (.goto 11, 3) := by decide +kernel
theorem d_A_instr_19 : decode b_A_instr 19 = .ok (.astore 7, 2) := by decide +kernel
theorem d_A_instr_21 : decode b_A_instr 21 = .ok (.iconst 1, 1) := by decide +kernel
theorem d_A_instr_22 : decode b_A_instr 22 = .ok (.ireturn, 1) := by decide +kernel
theorem d_A_instr_23 : decode b_A_instr 23 = .ok (.astore 7, 2) := by decide +kernel
theorem d_A_instr_25 : decode b_A_instr 25 = .ok (.iconst 2, 1) := by decide +kernel
theorem d_A_instr_26 : decode b_A_instr 26 = .ok (.ireturn, 1) := by decide +kernel
theorem d_A_instr_27 : decode b_A_instr 27 = .ok (.iconst 0, 1) := by decide +kernel
theorem d_A_instr_28 : decode b_A_instr 28 = .ok (.ireturn, 1) := by decide +kernel
set_option maxHeartbeats 4000000 in
set_option maxRecDepth 100000 in
theorem c_A_instr (l : Launch) (hl9 : l.stackTraces = false) (dC : Nat → ClassId) (dI : Nat → Nat → Nat) (h : Nat → Nat) (c : Nat → ClassId) (sz o : Nat) (co : ClassId) (sa91 : Nat) (sa97 : Nat) (g : Sg) (fo : Nat → Int64) (a1 : Int32) (a2 : Int32) (a3 : Int32) (a4 : Int32) (a5 : Int32) (r0 : ((String × Sg) ⊕ (Int32 × Sg))) (hF : f_Q_instr g a1 a2 a3 a4 a5 = some r0) : Met l y_A_instr (qs_wh y_A_instr b_A_instr 8 (some .int) [(0, 16, 19, 13), (0, 16, 23, 15)]) ({ frames := 7, cells := 1, slots := 6, locals := 107 } : Room) (va_Pc ([.ref (h 0), .int a1, .int a2, .int a3, .int a4, .int a5, .ref o] : List Value) (fun U => U.heap.size = sz ∧ va_P (dC, dI) vwCl (qa_W h c o co (g, fo)) U.heap ∧ va_K (dC, dI) vwCl (qa_T c co) U ∧ va_D (fun _ => True) (qa_W h c o co (g, fo)) ∧ qs_N U ∧ vx_Zq Bundle.tN "UNASSIGNED_STACK" Bundle.steD (va_A (qa_W h c o co (g, fo)) sz) U U.heap ∧ vx_Zq Bundle.tN "SUPPRESSED_SENTINEL" Bundle.listD (va_A (qa_W h c o co (g, fo)) sz) U U.heap ∧ va_Nc "java/lang/IllegalStateException" "java/lang/IllegalArgumentException" U ∧ va_Nc "java/lang/IllegalArgumentException" "java/util/NoSuchElementException" U ∧ vk_R R_Q 91 "no such instruction" sa91 U ∧ vk_R R_Q 97 "the function is full" sa97 U)) (va_Qi (fun (r : Int32) (u : Sg × (Nat → Int64)) => r = qa_code (["java/lang/IllegalArgumentException", "java/lang/IllegalStateException"] : List String) r0 ∧ u = (qa_st r0, qa_out r0 fo)) (fun u t => va_P (dC, dI) vwCl (qa_W h c o co u) t.heap ∧ va_K (dC, dI) vwCl (qa_T c co) t ∧ va_D (va_A (qa_W h c o co (g, fo)) sz) (qa_W h c o co u)) (va_A (qa_W h c o co (g, fo)) sz)) 1 6 (va_A (qa_W h c o co (g, fo)) sz) := by
  refine va_MetW (cc := b_A_instr) (maxL := 8) (ret := (some .int)) (hh := [(0, 16, 19, 13), (0, 16, 23, 15)]) (by decide +kernel) rfl ?_
  intro p e s m args below meth cd s₁ B hml hv
  obtain ⟨rfl, hsz, hP, hK, hD0, hNs, hU, hN, hc1, hc2, hs91, hs97⟩ := hv
  have hx := B.exec
  have hb := B.bytes
  have hr := B.returns
  have hts := atoms_spec (ws := (qs_wh y_A_instr b_A_instr 8 (some .int) [(0, 16, 19, 13), (0, 16, 23, 15)])) B.pre
  have hg : ∀ w ∈ qs_gt, w.before _ s = true := fun w h => hts w (List.mem_cons_of_mem _ h)
  have htab : cd.exceptionTable.toList = tableOf [(0, 16, 19, 13), (0, 16, 23, 15)] := vx_table (x := y_A_instr) B (hts _ List.mem_cons_self)
  have hown : s.vm.findClass R_A = some m.cls := findClass_of_methodNamed B.named
  have hlocks := B.notSynchronized
  subst hsz
  have hD := hD0.self (sz := s.heap.size)
  generalize hAe : va_A (qa_W h c o co (g, fo)) s.heap.size = A at hD hU hN ⊢
  have hA : ∀ q : Nat, s.heap.size ≤ q → A q := fun q h => by rw [← hAe]; exact Or.inr h
  have hS : va_S A s.heap s.heap [] := va_S.rf
  have hl := lv_entry ([.ref (h 0), .int a1, .int a2, .int a3, .int a4, .int a5, .ref o] : List Value) (n := 8) (Nat.le_of_ble_eq_true rfl)
  rw [lg_entry_eq]
  generalize (lg_sl ([.ref (h 0), .int a1, .int a2, .int a3, .int a4, .int a5, .ref o] : List Value) ++ List.replicate (8 - (lg_sl ([.ref (h 0), .int a1, .int a2, .int a3, .int a4, .int a5, .ref o] : List Value)).length) Slot.unset).toArray = ls at hl ⊢
  have hl : lv_has ls 8 [(0, .ref (h 0)), (1, .int a1), (2, .int a2), (3, .int a3), (4, .int a4), (5, .int a5), (6, .ref o)] := hl
  obtain ⟨H, hHe⟩ : ∃ H, H = s.heap := ⟨_, rfl⟩
  obtain ⟨locs, hLe⟩ : ∃ L : List Loc, L = [] := ⟨_, rfl⟩
  rw [← hHe] at hP ⊢
  rw [← hLe]
  have hS : va_S A s.heap H locs := by rw [hHe, hLe]; exact hS
  refine lv_aload hx hb d_A_instr_0 (lv_at hl 6 rfl) ?_
  refine lv_iconst (v := 0) hx hb d_A_instr_2 (by decide) ?_
  refine lv_aload_n hx hb d_A_instr_3 rfl (lv_at hl 0 rfl) ?_
  refine lv_iload_n hx hb d_A_instr_4 rfl (lv_at hl 1 rfl) ?_
  refine lv_iload_n hx hb d_A_instr_5 rfl (lv_at hl 2 rfl) ?_
  refine lv_iload_n hx hb d_A_instr_6 rfl (lv_at hl 3 rfl) ?_
  refine lv_iload hx hb d_A_instr_7 (lv_at hl 4 rfl) ?_
  refine lv_iload hx hb d_A_instr_9 (lv_at hl 5 rfl) ?_
  have hPc := hP.sub (ws' := qs_W h c g) [0, 1, 2, 3, 4, 5, 6, 7, 8, 9, 10, 11, 12, 13, 14, 15, 16] rfl
  have hDc := hD.sub (ws' := qs_W h c g) [0, 1, 2, 3, 4, 5, 6, 7, 8, 9, 10, 11, 12, 13, 14, 15, 16] (by decide) rfl
  have hKc := hK.sub (tys' := qs_T c) [0, 1, 2, 3, 4, 5, 6, 7, 8, 9] rfl
  have hFc := va_free (wc := qs_W h c g) hD hS hA [0, 1, 2, 3, 4, 5, 6, 7, 8, 9, 10, 11, 12, 13, 14, 15, 16] rfl
  refine vx_calli (vx_runV (own := "QuakeServerLaw") (C := "QuakeServer") (As := [.int a1, .int a2, .int a3, .int a4, .int a5]) (rest := [.int 0, .ref o]) ⟨hx, hb, hml, hown, hg⟩ (c_Q_instr l hl9 dC dI h c H.size sa91 sa97 g a1 a2 a3 a4 a5 r0 hF) (cwV 5 hg (qs_gV t_307 t_308 t_309 t_1 t_310) rfl rfl rfl (by decide +kernel) ⟨Nat.le_of_ble_eq_true rfl, Nat.le_of_ble_eq_true rfl⟩) ⟨fun a U g mk q => by obtain ⟨q0, q1, qP, qK, qD, qN, qU, qS, qs91, qs97⟩ := q; exact ⟨q0, q1, qP, va_K.moved (u := U) (U := U.calling g mk a) (Vm.Alike.refl U.vm) qK, qD, qs_N.same (s := U) (U := U.calling g mk a) rfl qN, vx_Zq.moved (u := U) (U := U.calling g mk a) (Vm.Alike.refl U.vm) qU, vx_Zq.moved (u := U) (U := U.calling g mk a) (Vm.Alike.refl U.vm) qS, vk_R.same (u := U) (U := U.calling g mk a) rfl qs91, vk_R.same (u := U) (U := U.calling g mk a) rfl qs97⟩, va_recv hKc hPc (ci := 6) (q0 := 0) rfl rfl, fun U9 hU9 hW9 => ⟨rfl, by rw [hU9], by rw [hU9]; exact hPc, va_K.moved hW9.alike hKc, hDc.weaken (fun _ _ _ _ => trivial), hNs.warm hW9, by rw [hU9]; exact vx_Zq.moved hW9.alike ((hU.kept hS.2.1).narrow hFc), by rw [hU9]; exact vx_Zq.moved hW9.alike ((hN.kept hS.2.1).narrow hFc), vk_R.warm hW9 hs91, vk_R.warm hW9 hs97⟩⟩ rfl rfl hl.1 rfl (lv_room (Nat.le_of_ble_eq_true rfl)) d_A_instr_11 ⟨Nat.le_of_ble_eq_true rfl, Nat.le_of_ble_eq_true rfl⟩) hS (fun q _ h => hFc q h) hFc (fun q _ h => hFc q h) (fun E ce q9 u t H1 locs ht hvm _ hB hz hk hS hce hcv hcl => ?_) (fun r u t H1 locs ht hvm hw hB hz hk hS => ?_)
  · obtain ⟨⟨hw, hE⟩, hP1, hK1, hD1⟩ := hB
    rw [ht] at hP1
    obtain ⟨hP, hD⟩ := va_join (wr := [(o, .inl (co, 1, .inr (.inl fo)))]) (w1 := qs_W h c u) hP hD [0, 1, 2, 3, 4, 5, 6, 7, 8, 9, 10, 11, 12, 13, 14, 15, 16] [17] rfl rfl (by decide) (by decide) hk hFc hP1 hD1
    have hP := hP.sub (ws' := qa_W h c o co (u, fo)) [1, 2, 3, 4, 5, 6, 7, 8, 9, 10, 11, 12, 13, 14, 15, 16, 17, 0] rfl
    have hD := hD.sub (ws' := qa_W h c o co (u, fo)) [1, 2, 3, 4, 5, 6, 7, 8, 9, 10, 11, 12, 13, 14, 15, 16, 17, 0] (by decide) rfl
    refine vx_widen (k := 1) (n := 6) (Nat.le_of_ble_eq_true rfl) (Nat.le_of_ble_eq_true rfl) ?_
    simp only [List.mem_cons, List.not_mem_nil, or_false] at hE
    rcases hE with rfl | rfl
    · refine vx_catch (own := "QuakeServerLaw") (name := "java/lang/IllegalArgumentException") hown [] ⟨0, 16, 19, 13⟩ [⟨0, 16, 23, 15⟩] htab (fun z hz => by cases hz) (by decide) (by decide) (hg _ t_206) (va_Nw.use rfl (hNs.2.2.1 ("java/lang/IllegalArgumentException", "java/lang/IllegalArgumentException") (List.mem_of_getElem? (i := 0) rfl))) hce hcv hcl ?_
      refine lv_astore (lv' := [(7, .ref q9), (0, .ref (h 0)), (1, .int a1), (2, .int a2), (3, .int a3), (4, .int a4), (5, .int a5), (6, .ref o)]) hx hb d_A_instr_19 hl (by decide) rfl (fun ls hl => ?_)
      refine lv_iconst (v := 1) hx hb d_A_instr_21 (by decide) ?_
      exact W.iret (v := 1) hx hb hr (fun t ht hW => ⟨⟨1, (u, fo), rfl, ⟨by rw [hw]; rfl, by rw [hw]; rfl⟩, by rw [ht]; exact hP, va_K.moved hW.alike hK, hD⟩, hS.F ht⟩) hS.2.2 d_A_instr_22
    · refine vx_catch (own := "QuakeServerLaw") (name := "java/lang/IllegalStateException") hown [⟨0, 16, 19, 13⟩] ⟨0, 16, 23, 15⟩ [] htab (fun z hz => by rw [List.mem_singleton.mp hz]; exact Or.inr ⟨by decide, "java/lang/IllegalArgumentException", hg _ t_206, hc1⟩) (by decide) (by decide) (hg _ t_207) (va_Nw.use rfl (hNs.2.2.1 ("java/lang/IllegalStateException", "java/lang/IllegalStateException") (List.mem_of_getElem? (i := 1) rfl))) hce hcv hcl ?_
      refine lv_astore (lv' := [(7, .ref q9), (0, .ref (h 0)), (1, .int a1), (2, .int a2), (3, .int a3), (4, .int a4), (5, .int a5), (6, .ref o)]) hx hb d_A_instr_23 hl (by decide) rfl (fun ls hl => ?_)
      refine lv_iconst (v := 2) hx hb d_A_instr_25 (by decide) ?_
      exact W.iret (v := 2) hx hb hr (fun t ht hW => ⟨⟨2, (u, fo), rfl, ⟨by rw [hw]; rfl, by rw [hw]; rfl⟩, by rw [ht]; exact hP, va_K.moved hW.alike hK, hD⟩, hS.F ht⟩) hS.2.2 d_A_instr_26
  · obtain ⟨hP1, hK1, hD1⟩ := hB
    rw [ht] at hP1
    obtain ⟨hP, hD⟩ := va_join (wr := [(o, .inl (co, 1, .inr (.inl fo)))]) (w1 := qs_W h c u) hP hD [0, 1, 2, 3, 4, 5, 6, 7, 8, 9, 10, 11, 12, 13, 14, 15, 16] [17] rfl rfl (by decide) (by decide) hk hFc hP1 hD1
    have hP := hP.sub (ws' := qa_W h c o co (u, fo)) [1, 2, 3, 4, 5, 6, 7, 8, 9, 10, 11, 12, 13, 14, 15, 16, 17, 0] rfl
    have hD := hD.sub (ws' := qa_W h c o co (u, fo)) [1, 2, 3, 4, 5, 6, 7, 8, 9, 10, 11, 12, 13, 14, 15, 16, 17, 0] (by decide) rfl
    refine W.widen (k := 1) (n := 6) (Nat.le_of_ble_eq_true rfl) (Nat.le_of_ble_eq_true rfl) ?_
    refine lv_i2l (v := r.toInt64) hx hb d_A_instr_14 rfl ?_
    refine va_last hx hb hK hP hD hS 17 10 rfl rfl qa_in0 d_A_instr_15 (fun H locs hP hD hS => ?_)
    have hP : va_P (dC, dI) vwCl (qa_W h c o co (u, vp_updL fo 0 r.toInt64)) H := hP
    have hD : va_D A (qa_W h c o co (u, vp_updL fo 0 r.toInt64)) := hD
    refine lv_goto (tgt := 27) hx hb d_A_instr_16 (by decide) ?_
    refine lv_iconst (v := 0) hx hb d_A_instr_27 (by decide) ?_
    exact W.iret (v := 0) hx hb hr (fun t ht hW => ⟨⟨0, (u, vp_updL fo 0 r.toInt64), rfl, ⟨by rw [hw]; rfl, by rw [hw]; rfl⟩, by rw [ht]; exact hP, va_K.moved hW.alike hK, hD⟩, hS.F ht⟩) hS.2.2 d_A_instr_28

theorem d_A_spawn_0 : decode b_A_spawn 0 = .ok (.aload 7, 2) := by decide +kernel
theorem d_A_spawn_2 : decode b_A_spawn 2 = .ok (.iconst 0, 1) := by decide +kernel
theorem d_A_spawn_3 : decode b_A_spawn 3 = .ok (.aload_n 0, 1) := by decide +kernel
theorem d_A_spawn_4 : decode b_A_spawn 4 = .ok (.dload_n 1, 1) := by decide +kernel
theorem d_A_spawn_5 : decode b_A_spawn 5 = .ok (.dload_n 3, 1) := by decide +kernel
theorem d_A_spawn_6 : decode b_A_spawn 6 = .ok (.dload 5, 2) := by decide +kernel
theorem d_A_spawn_8 : decode b_A_spawn 8 = .ok (.invokevirtual 21, 3) := by decide +kernel
theorem d_A_spawn_11 : decode b_A_spawn 11 = .ok (.i2l, 1) := by decide +kernel
theorem d_A_spawn_12 : decode b_A_spawn 12 = .ok (.lastore, 1) := by decide +kernel
theorem d_A_spawn_13 : decode b_A_spawn 13 = .ok (.goto 11, 3) := by decide +kernel
theorem d_A_spawn_16 : decode b_A_spawn 16 = .ok (.astore 8, 2) := by decide +kernel
theorem d_A_spawn_18 : decode b_A_spawn 18 = .ok (.iconst 1, 1) := by decide +kernel
theorem d_A_spawn_19 : decode b_A_spawn 19 = .ok (.ireturn, 1) := by decide +kernel
theorem d_A_spawn_20 : decode b_A_spawn 20 = .ok (.astore 8, 2) := by decide +kernel
theorem d_A_spawn_22 : decode b_A_spawn 22 = .ok (.iconst 2, 1) := by decide +kernel
theorem d_A_spawn_23 : decode b_A_spawn 23 = .ok (.ireturn, 1) := by decide +kernel
theorem d_A_spawn_24 : decode b_A_spawn 24 = .ok (.iconst 0, 1) := by decide +kernel
theorem d_A_spawn_25 : decode b_A_spawn 25 = .ok (.ireturn, 1) := by decide +kernel
set_option maxHeartbeats 4000000 in
set_option maxRecDepth 100000 in
theorem c_A_spawn (l : Launch) (hl9 : l.stackTraces = false) (dC : Nat → ClassId) (dI : Nat → Nat → Nat) (h : Nat → Nat) (c : Nat → ClassId) (sz o : Nat) (co : ClassId) (sa106 : Nat) (sa112 : Nat) (g : Sg) (fo : Nat → Int64) (a1 : UInt64) (a2 : UInt64) (a3 : UInt64) (r0 : ((String × Sg) ⊕ (Int32 × Sg))) (hF : f_Q_spawn g a1 a2 a3 = some r0) : Met l y_A_spawn (qs_wh y_A_spawn b_A_spawn 9 (some .int) [(0, 13, 16, 13), (0, 13, 20, 15)]) ({ frames := 7, cells := 1, slots := 6, locals := 109 } : Room) (va_Pc ([.ref (h 0), .double a1, .double a2, .double a3, .ref o] : List Value) (fun U => U.heap.size = sz ∧ va_P (dC, dI) vwCl (qa_W h c o co (g, fo)) U.heap ∧ va_K (dC, dI) vwCl (qa_T c co) U ∧ va_D (fun _ => True) (qa_W h c o co (g, fo)) ∧ qs_N U ∧ vx_Zq Bundle.tN "UNASSIGNED_STACK" Bundle.steD (va_A (qa_W h c o co (g, fo)) sz) U U.heap ∧ vx_Zq Bundle.tN "SUPPRESSED_SENTINEL" Bundle.listD (va_A (qa_W h c o co (g, fo)) sz) U U.heap ∧ va_Nc "java/lang/IllegalStateException" "java/lang/IllegalArgumentException" U ∧ va_Nc "java/lang/IllegalArgumentException" "java/util/NoSuchElementException" U ∧ vk_R R_Q 106 "a number is out of range" sa106 U ∧ vk_R R_Q 112 "all entities are there" sa112 U)) (va_Qi (fun (r : Int32) (u : Sg × (Nat → Int64)) => r = qa_code (["java/lang/IllegalArgumentException", "java/lang/IllegalStateException"] : List String) r0 ∧ u = (qa_st r0, qa_out r0 fo)) (fun u t => va_P (dC, dI) vwCl (qa_W h c o co u) t.heap ∧ va_K (dC, dI) vwCl (qa_T c co) t ∧ va_D (va_A (qa_W h c o co (g, fo)) sz) (qa_W h c o co u)) (va_A (qa_W h c o co (g, fo)) sz)) 1 6 (va_A (qa_W h c o co (g, fo)) sz) := by
  refine va_MetW (cc := b_A_spawn) (maxL := 9) (ret := (some .int)) (hh := [(0, 13, 16, 13), (0, 13, 20, 15)]) (by decide +kernel) rfl ?_
  intro p e s m args below meth cd s₁ B hml hv
  obtain ⟨rfl, hsz, hP, hK, hD0, hNs, hU, hN, hc1, hc2, hs106, hs112⟩ := hv
  have hx := B.exec
  have hb := B.bytes
  have hr := B.returns
  have hts := atoms_spec (ws := (qs_wh y_A_spawn b_A_spawn 9 (some .int) [(0, 13, 16, 13), (0, 13, 20, 15)])) B.pre
  have hg : ∀ w ∈ qs_gt, w.before _ s = true := fun w h => hts w (List.mem_cons_of_mem _ h)
  have htab : cd.exceptionTable.toList = tableOf [(0, 13, 16, 13), (0, 13, 20, 15)] := vx_table (x := y_A_spawn) B (hts _ List.mem_cons_self)
  have hown : s.vm.findClass R_A = some m.cls := findClass_of_methodNamed B.named
  have hlocks := B.notSynchronized
  subst hsz
  have hD := hD0.self (sz := s.heap.size)
  generalize hAe : va_A (qa_W h c o co (g, fo)) s.heap.size = A at hD hU hN ⊢
  have hA : ∀ q : Nat, s.heap.size ≤ q → A q := fun q h => by rw [← hAe]; exact Or.inr h
  have hS : va_S A s.heap s.heap [] := va_S.rf
  have hl := lv_entry ([.ref (h 0), .double a1, .double a2, .double a3, .ref o] : List Value) (n := 9) (Nat.le_of_ble_eq_true rfl)
  rw [lg_entry_eq]
  generalize (lg_sl ([.ref (h 0), .double a1, .double a2, .double a3, .ref o] : List Value) ++ List.replicate (9 - (lg_sl ([.ref (h 0), .double a1, .double a2, .double a3, .ref o] : List Value)).length) Slot.unset).toArray = ls at hl ⊢
  have hl : lv_has ls 9 [(0, .ref (h 0)), (1, .double a1), (3, .double a2), (5, .double a3), (7, .ref o)] := hl
  obtain ⟨H, hHe⟩ : ∃ H, H = s.heap := ⟨_, rfl⟩
  obtain ⟨locs, hLe⟩ : ∃ L : List Loc, L = [] := ⟨_, rfl⟩
  rw [← hHe] at hP ⊢
  rw [← hLe]
  have hS : va_S A s.heap H locs := by rw [hHe, hLe]; exact hS
  refine lv_aload hx hb d_A_spawn_0 (lv_at hl 4 rfl) ?_
  refine lv_iconst (v := 0) hx hb d_A_spawn_2 (by decide) ?_
  refine lv_aload_n hx hb d_A_spawn_3 rfl (lv_at hl 0 rfl) ?_
  refine lv_dload_n hx hb d_A_spawn_4 rfl (lv_at hl 1 rfl) ?_
  refine lv_dload_n hx hb d_A_spawn_5 rfl (lv_at hl 2 rfl) ?_
  refine lv_dload hx hb d_A_spawn_6 (lv_at hl 3 rfl) ?_
  have hPc := hP.sub (ws' := qs_W h c g) [0, 1, 2, 3, 4, 5, 6, 7, 8, 9, 10, 11, 12, 13, 14, 15, 16] rfl
  have hDc := hD.sub (ws' := qs_W h c g) [0, 1, 2, 3, 4, 5, 6, 7, 8, 9, 10, 11, 12, 13, 14, 15, 16] (by decide) rfl
  have hKc := hK.sub (tys' := qs_T c) [0, 1, 2, 3, 4, 5, 6, 7, 8, 9] rfl
  have hFc := va_free (wc := qs_W h c g) hD hS hA [0, 1, 2, 3, 4, 5, 6, 7, 8, 9, 10, 11, 12, 13, 14, 15, 16] rfl
  refine vx_calli (vx_runV (own := "QuakeServerLaw") (C := "QuakeServer") (As := [.double a1, .double a2, .double a3]) (rest := [.int 0, .ref o]) ⟨hx, hb, hml, hown, hg⟩ (c_Q_spawn l hl9 dC dI h c H.size sa106 sa112 g a1 a2 a3 r0 hF) (cwV 3 hg (qs_gV t_335 t_336 t_337 t_1 t_338) rfl rfl rfl (by decide +kernel) ⟨Nat.le_of_ble_eq_true rfl, Nat.le_of_ble_eq_true rfl⟩) ⟨fun a U g mk q => by obtain ⟨q0, q1, qP, qK, qD, qN, qU, qS, qs106, qs112⟩ := q; exact ⟨q0, q1, qP, va_K.moved (u := U) (U := U.calling g mk a) (Vm.Alike.refl U.vm) qK, qD, qs_N.same (s := U) (U := U.calling g mk a) rfl qN, vx_Zq.moved (u := U) (U := U.calling g mk a) (Vm.Alike.refl U.vm) qU, vx_Zq.moved (u := U) (U := U.calling g mk a) (Vm.Alike.refl U.vm) qS, vk_R.same (u := U) (U := U.calling g mk a) rfl qs106, vk_R.same (u := U) (U := U.calling g mk a) rfl qs112⟩, va_recv hKc hPc (ci := 6) (q0 := 0) rfl rfl, fun U9 hU9 hW9 => ⟨rfl, by rw [hU9], by rw [hU9]; exact hPc, va_K.moved hW9.alike hKc, hDc.weaken (fun _ _ _ _ => trivial), hNs.warm hW9, by rw [hU9]; exact vx_Zq.moved hW9.alike ((hU.kept hS.2.1).narrow hFc), by rw [hU9]; exact vx_Zq.moved hW9.alike ((hN.kept hS.2.1).narrow hFc), vk_R.warm hW9 hs106, vk_R.warm hW9 hs112⟩⟩ rfl rfl hl.1 rfl (lv_room (Nat.le_of_ble_eq_true rfl)) d_A_spawn_8 ⟨Nat.le_of_ble_eq_true rfl, Nat.le_of_ble_eq_true rfl⟩) hS (fun q _ h => hFc q h) hFc (fun q _ h => hFc q h) (fun E ce q9 u t H1 locs ht hvm _ hB hz hk hS hce hcv hcl => ?_) (fun r u t H1 locs ht hvm hw hB hz hk hS => ?_)
  · obtain ⟨⟨hw, hE⟩, hP1, hK1, hD1⟩ := hB
    rw [ht] at hP1
    obtain ⟨hP, hD⟩ := va_join (wr := [(o, .inl (co, 1, .inr (.inl fo)))]) (w1 := qs_W h c u) hP hD [0, 1, 2, 3, 4, 5, 6, 7, 8, 9, 10, 11, 12, 13, 14, 15, 16] [17] rfl rfl (by decide) (by decide) hk hFc hP1 hD1
    have hP := hP.sub (ws' := qa_W h c o co (u, fo)) [1, 2, 3, 4, 5, 6, 7, 8, 9, 10, 11, 12, 13, 14, 15, 16, 17, 0] rfl
    have hD := hD.sub (ws' := qa_W h c o co (u, fo)) [1, 2, 3, 4, 5, 6, 7, 8, 9, 10, 11, 12, 13, 14, 15, 16, 17, 0] (by decide) rfl
    refine vx_widen (k := 1) (n := 6) (Nat.le_of_ble_eq_true rfl) (Nat.le_of_ble_eq_true rfl) ?_
    simp only [List.mem_cons, List.not_mem_nil, or_false] at hE
    rcases hE with rfl | rfl
    · refine vx_catch (own := "QuakeServerLaw") (name := "java/lang/IllegalArgumentException") hown [] ⟨0, 13, 16, 13⟩ [⟨0, 13, 20, 15⟩] htab (fun z hz => by cases hz) (by decide) (by decide) (hg _ t_206) (va_Nw.use rfl (hNs.2.2.1 ("java/lang/IllegalArgumentException", "java/lang/IllegalArgumentException") (List.mem_of_getElem? (i := 0) rfl))) hce hcv hcl ?_
      refine lv_astore (lv' := [(8, .ref q9), (0, .ref (h 0)), (1, .double a1), (3, .double a2), (5, .double a3), (7, .ref o)]) hx hb d_A_spawn_16 hl (by decide) rfl (fun ls hl => ?_)
      refine lv_iconst (v := 1) hx hb d_A_spawn_18 (by decide) ?_
      exact W.iret (v := 1) hx hb hr (fun t ht hW => ⟨⟨1, (u, fo), rfl, ⟨by rw [hw]; rfl, by rw [hw]; rfl⟩, by rw [ht]; exact hP, va_K.moved hW.alike hK, hD⟩, hS.F ht⟩) hS.2.2 d_A_spawn_19
    · refine vx_catch (own := "QuakeServerLaw") (name := "java/lang/IllegalStateException") hown [⟨0, 13, 16, 13⟩] ⟨0, 13, 20, 15⟩ [] htab (fun z hz => by rw [List.mem_singleton.mp hz]; exact Or.inr ⟨by decide, "java/lang/IllegalArgumentException", hg _ t_206, hc1⟩) (by decide) (by decide) (hg _ t_207) (va_Nw.use rfl (hNs.2.2.1 ("java/lang/IllegalStateException", "java/lang/IllegalStateException") (List.mem_of_getElem? (i := 1) rfl))) hce hcv hcl ?_
      refine lv_astore (lv' := [(8, .ref q9), (0, .ref (h 0)), (1, .double a1), (3, .double a2), (5, .double a3), (7, .ref o)]) hx hb d_A_spawn_20 hl (by decide) rfl (fun ls hl => ?_)
      refine lv_iconst (v := 2) hx hb d_A_spawn_22 (by decide) ?_
      exact W.iret (v := 2) hx hb hr (fun t ht hW => ⟨⟨2, (u, fo), rfl, ⟨by rw [hw]; rfl, by rw [hw]; rfl⟩, by rw [ht]; exact hP, va_K.moved hW.alike hK, hD⟩, hS.F ht⟩) hS.2.2 d_A_spawn_23
  · obtain ⟨hP1, hK1, hD1⟩ := hB
    rw [ht] at hP1
    obtain ⟨hP, hD⟩ := va_join (wr := [(o, .inl (co, 1, .inr (.inl fo)))]) (w1 := qs_W h c u) hP hD [0, 1, 2, 3, 4, 5, 6, 7, 8, 9, 10, 11, 12, 13, 14, 15, 16] [17] rfl rfl (by decide) (by decide) hk hFc hP1 hD1
    have hP := hP.sub (ws' := qa_W h c o co (u, fo)) [1, 2, 3, 4, 5, 6, 7, 8, 9, 10, 11, 12, 13, 14, 15, 16, 17, 0] rfl
    have hD := hD.sub (ws' := qa_W h c o co (u, fo)) [1, 2, 3, 4, 5, 6, 7, 8, 9, 10, 11, 12, 13, 14, 15, 16, 17, 0] (by decide) rfl
    refine W.widen (k := 1) (n := 6) (Nat.le_of_ble_eq_true rfl) (Nat.le_of_ble_eq_true rfl) ?_
    refine lv_i2l (v := r.toInt64) hx hb d_A_spawn_11 rfl ?_
    refine va_last hx hb hK hP hD hS 17 10 rfl rfl qa_in0 d_A_spawn_12 (fun H locs hP hD hS => ?_)
    have hP : va_P (dC, dI) vwCl (qa_W h c o co (u, vp_updL fo 0 r.toInt64)) H := hP
    have hD : va_D A (qa_W h c o co (u, vp_updL fo 0 r.toInt64)) := hD
    refine lv_goto (tgt := 24) hx hb d_A_spawn_13 (by decide) ?_
    refine lv_iconst (v := 0) hx hb d_A_spawn_24 (by decide) ?_
    exact W.iret (v := 0) hx hb hr (fun t ht hW => ⟨⟨0, (u, vp_updL fo 0 r.toInt64), rfl, ⟨by rw [hw]; rfl, by rw [hw]; rfl⟩, by rw [ht]; exact hP, va_K.moved hW.alike hK, hD⟩, hS.F ht⟩) hS.2.2 d_A_spawn_25

theorem d_A_remove_0 : decode b_A_remove 0 = .ok (.aload_n 2, 1) := by decide +kernel
theorem d_A_remove_1 : decode b_A_remove 1 = .ok (.iconst 0, 1) := by decide +kernel
theorem d_A_remove_2 : decode b_A_remove 2 = .ok (.aload_n 0, 1) := by decide +kernel
theorem d_A_remove_3 : decode b_A_remove 3 = .ok (.iload_n 1, 1) := by decide +kernel
theorem d_A_remove_4 : decode b_A_remove 4 = .ok (.invokevirtual 25, 3) := by decide +kernel
theorem d_A_remove_7 : decode b_A_remove 7 = .ok (.i2l, 1) := by decide +kernel
theorem d_A_remove_8 : decode b_A_remove 8 = .ok (.lastore, 1) := by decide +kernel
theorem d_A_remove_9 : decode b_A_remove 9 = .ok (.goto 6, 3) := by decide +kernel
theorem d_A_remove_12 : decode b_A_remove 12 = .ok (.astore_n 3, 1) := by decide +kernel
theorem d_A_remove_13 : decode b_A_remove 13 = .ok (.iconst 1, 1) := by decide +kernel
theorem d_A_remove_14 : decode b_A_remove 14 = .ok (.ireturn, 1) := by decide +kernel
theorem d_A_remove_15 : decode b_A_remove 15 = .ok (.iconst 0, 1) := by decide +kernel
theorem d_A_remove_16 : decode b_A_remove 16 = .ok (.ireturn, 1) := by decide +kernel
set_option maxHeartbeats 4000000 in
set_option maxRecDepth 100000 in
theorem c_A_remove (l : Launch) (hl9 : l.stackTraces = false) (dC : Nat → ClassId) (dI : Nat → Nat → Nat) (h : Nat → Nat) (c : Nat → ClassId) (sz o : Nat) (co : ClassId) (sa127 : Nat) (g : Sg) (fo : Nat → Int64) (a1 : Int32) (r0 : ((String × Sg) ⊕ (Int32 × Sg))) (hF : f_Q_remove g a1 = some r0) : Met l y_A_remove (qs_wh y_A_remove b_A_remove 4 (some .int) [(0, 9, 12, 29)]) ({ frames := 7, cells := 1, slots := 6, locals := 103 } : Room) (va_Pc ([.ref (h 0), .int a1, .ref o] : List Value) (fun U => U.heap.size = sz ∧ va_P (dC, dI) vwCl (qa_W h c o co (g, fo)) U.heap ∧ va_K (dC, dI) vwCl (qa_T c co) U ∧ va_D (fun _ => True) (qa_W h c o co (g, fo)) ∧ qs_N U ∧ vx_Zq Bundle.tN "UNASSIGNED_STACK" Bundle.steD (va_A (qa_W h c o co (g, fo)) sz) U U.heap ∧ vx_Zq Bundle.tN "SUPPRESSED_SENTINEL" Bundle.listD (va_A (qa_W h c o co (g, fo)) sz) U U.heap ∧ va_Nc "java/lang/IllegalStateException" "java/lang/IllegalArgumentException" U ∧ va_Nc "java/lang/IllegalArgumentException" "java/util/NoSuchElementException" U ∧ vk_R R_Q 127 "the entity is not there" sa127 U)) (va_Qi (fun (r : Int32) (u : Sg × (Nat → Int64)) => r = qa_code (["java/util/NoSuchElementException"] : List String) r0 ∧ u = (qa_st r0, qa_out r0 fo)) (fun u t => va_P (dC, dI) vwCl (qa_W h c o co u) t.heap ∧ va_K (dC, dI) vwCl (qa_T c co) t ∧ va_D (va_A (qa_W h c o co (g, fo)) sz) (qa_W h c o co u)) (va_A (qa_W h c o co (g, fo)) sz)) 1 6 (va_A (qa_W h c o co (g, fo)) sz) := by
  refine va_MetW (cc := b_A_remove) (maxL := 4) (ret := (some .int)) (hh := [(0, 9, 12, 29)]) (by decide +kernel) rfl ?_
  intro p e s m args below meth cd s₁ B hml hv
  obtain ⟨rfl, hsz, hP, hK, hD0, hNs, hU, hN, hc1, hc2, hs127⟩ := hv
  have hx := B.exec
  have hb := B.bytes
  have hr := B.returns
  have hts := atoms_spec (ws := (qs_wh y_A_remove b_A_remove 4 (some .int) [(0, 9, 12, 29)])) B.pre
  have hg : ∀ w ∈ qs_gt, w.before _ s = true := fun w h => hts w (List.mem_cons_of_mem _ h)
  have htab : cd.exceptionTable.toList = tableOf [(0, 9, 12, 29)] := vx_table (x := y_A_remove) B (hts _ List.mem_cons_self)
  have hown : s.vm.findClass R_A = some m.cls := findClass_of_methodNamed B.named
  have hlocks := B.notSynchronized
  subst hsz
  have hD := hD0.self (sz := s.heap.size)
  generalize hAe : va_A (qa_W h c o co (g, fo)) s.heap.size = A at hD hU hN ⊢
  have hA : ∀ q : Nat, s.heap.size ≤ q → A q := fun q h => by rw [← hAe]; exact Or.inr h
  have hS : va_S A s.heap s.heap [] := va_S.rf
  have hl := lv_entry ([.ref (h 0), .int a1, .ref o] : List Value) (n := 4) (Nat.le_of_ble_eq_true rfl)
  rw [lg_entry_eq]
  generalize (lg_sl ([.ref (h 0), .int a1, .ref o] : List Value) ++ List.replicate (4 - (lg_sl ([.ref (h 0), .int a1, .ref o] : List Value)).length) Slot.unset).toArray = ls at hl ⊢
  have hl : lv_has ls 4 [(0, .ref (h 0)), (1, .int a1), (2, .ref o)] := hl
  obtain ⟨H, hHe⟩ : ∃ H, H = s.heap := ⟨_, rfl⟩
  obtain ⟨locs, hLe⟩ : ∃ L : List Loc, L = [] := ⟨_, rfl⟩
  rw [← hHe] at hP ⊢
  rw [← hLe]
  have hS : va_S A s.heap H locs := by rw [hHe, hLe]; exact hS
  refine lv_aload_n hx hb d_A_remove_0 rfl (lv_at hl 2 rfl) ?_
  refine lv_iconst (v := 0) hx hb d_A_remove_1 (by decide) ?_
  refine lv_aload_n hx hb d_A_remove_2 rfl (lv_at hl 0 rfl) ?_
  refine lv_iload_n hx hb d_A_remove_3 rfl (lv_at hl 1 rfl) ?_
  have hPc := hP.sub (ws' := qs_W h c g) [0, 1, 2, 3, 4, 5, 6, 7, 8, 9, 10, 11, 12, 13, 14, 15, 16] rfl
  have hDc := hD.sub (ws' := qs_W h c g) [0, 1, 2, 3, 4, 5, 6, 7, 8, 9, 10, 11, 12, 13, 14, 15, 16] (by decide) rfl
  have hKc := hK.sub (tys' := qs_T c) [0, 1, 2, 3, 4, 5, 6, 7, 8, 9] rfl
  have hFc := va_free (wc := qs_W h c g) hD hS hA [0, 1, 2, 3, 4, 5, 6, 7, 8, 9, 10, 11, 12, 13, 14, 15, 16] rfl
  refine vx_calli (vx_runV (own := "QuakeServerLaw") (C := "QuakeServer") (As := [.int a1]) (rest := [.int 0, .ref o]) ⟨hx, hb, hml, hown, hg⟩ (c_Q_remove l hl9 dC dI h c H.size sa127 g a1 r0 hF) (cwV 1 hg (qs_gV t_363 t_364 t_365 t_1 t_366) rfl rfl rfl (by decide +kernel) ⟨Nat.le_of_ble_eq_true rfl, Nat.le_of_ble_eq_true rfl⟩) ⟨fun a U g mk q => by obtain ⟨q0, q1, qP, qK, qD, qN, qU, qS, qs127⟩ := q; exact ⟨q0, q1, qP, va_K.moved (u := U) (U := U.calling g mk a) (Vm.Alike.refl U.vm) qK, qD, qs_N.same (s := U) (U := U.calling g mk a) rfl qN, vx_Zq.moved (u := U) (U := U.calling g mk a) (Vm.Alike.refl U.vm) qU, vx_Zq.moved (u := U) (U := U.calling g mk a) (Vm.Alike.refl U.vm) qS, vk_R.same (u := U) (U := U.calling g mk a) rfl qs127⟩, va_recv hKc hPc (ci := 6) (q0 := 0) rfl rfl, fun U9 hU9 hW9 => ⟨rfl, by rw [hU9], by rw [hU9]; exact hPc, va_K.moved hW9.alike hKc, hDc.weaken (fun _ _ _ _ => trivial), hNs.warm hW9, by rw [hU9]; exact vx_Zq.moved hW9.alike ((hU.kept hS.2.1).narrow hFc), by rw [hU9]; exact vx_Zq.moved hW9.alike ((hN.kept hS.2.1).narrow hFc), vk_R.warm hW9 hs127⟩⟩ rfl rfl hl.1 rfl (lv_room (Nat.le_of_ble_eq_true rfl)) d_A_remove_4 ⟨Nat.le_of_ble_eq_true rfl, Nat.le_of_ble_eq_true rfl⟩) hS (fun q _ h => hFc q h) hFc (fun q _ h => hFc q h) (fun E ce q9 u t H1 locs ht hvm _ hB hz hk hS hce hcv hcl => ?_) (fun r u t H1 locs ht hvm hw hB hz hk hS => ?_)
  · obtain ⟨⟨hw, hE⟩, hP1, hK1, hD1⟩ := hB
    rw [ht] at hP1
    obtain ⟨hP, hD⟩ := va_join (wr := [(o, .inl (co, 1, .inr (.inl fo)))]) (w1 := qs_W h c u) hP hD [0, 1, 2, 3, 4, 5, 6, 7, 8, 9, 10, 11, 12, 13, 14, 15, 16] [17] rfl rfl (by decide) (by decide) hk hFc hP1 hD1
    have hP := hP.sub (ws' := qa_W h c o co (u, fo)) [1, 2, 3, 4, 5, 6, 7, 8, 9, 10, 11, 12, 13, 14, 15, 16, 17, 0] rfl
    have hD := hD.sub (ws' := qa_W h c o co (u, fo)) [1, 2, 3, 4, 5, 6, 7, 8, 9, 10, 11, 12, 13, 14, 15, 16, 17, 0] (by decide) rfl
    refine vx_widen (k := 1) (n := 6) (Nat.le_of_ble_eq_true rfl) (Nat.le_of_ble_eq_true rfl) ?_
    simp only [List.mem_cons, List.not_mem_nil, or_false] at hE
    subst hE
    refine vx_catch (own := "QuakeServerLaw") (name := "java/util/NoSuchElementException") hown [] ⟨0, 9, 12, 29⟩ [] htab (fun z hz => by cases hz) (by decide) (by decide) (hg _ t_362) (va_Nw.use rfl (hNs.2.2.1 ("java/util/NoSuchElementException", "java/util/NoSuchElementException") (List.mem_of_getElem? (i := 2) rfl))) hce hcv hcl ?_
    refine lv_astore_n (lv' := [(3, .ref q9), (0, .ref (h 0)), (1, .int a1), (2, .ref o)]) hx hb d_A_remove_12 rfl hl (by decide) rfl (fun ls hl => ?_)
    refine lv_iconst (v := 1) hx hb d_A_remove_13 (by decide) ?_
    exact W.iret (v := 1) hx hb hr (fun t ht hW => ⟨⟨1, (u, fo), rfl, ⟨by rw [hw]; rfl, by rw [hw]; rfl⟩, by rw [ht]; exact hP, va_K.moved hW.alike hK, hD⟩, hS.F ht⟩) hS.2.2 d_A_remove_14
  · obtain ⟨hP1, hK1, hD1⟩ := hB
    rw [ht] at hP1
    obtain ⟨hP, hD⟩ := va_join (wr := [(o, .inl (co, 1, .inr (.inl fo)))]) (w1 := qs_W h c u) hP hD [0, 1, 2, 3, 4, 5, 6, 7, 8, 9, 10, 11, 12, 13, 14, 15, 16] [17] rfl rfl (by decide) (by decide) hk hFc hP1 hD1
    have hP := hP.sub (ws' := qa_W h c o co (u, fo)) [1, 2, 3, 4, 5, 6, 7, 8, 9, 10, 11, 12, 13, 14, 15, 16, 17, 0] rfl
    have hD := hD.sub (ws' := qa_W h c o co (u, fo)) [1, 2, 3, 4, 5, 6, 7, 8, 9, 10, 11, 12, 13, 14, 15, 16, 17, 0] (by decide) rfl
    refine W.widen (k := 1) (n := 6) (Nat.le_of_ble_eq_true rfl) (Nat.le_of_ble_eq_true rfl) ?_
    refine lv_i2l (v := r.toInt64) hx hb d_A_remove_7 rfl ?_
    refine va_last hx hb hK hP hD hS 17 10 rfl rfl qa_in0 d_A_remove_8 (fun H locs hP hD hS => ?_)
    have hP : va_P (dC, dI) vwCl (qa_W h c o co (u, vp_updL fo 0 r.toInt64)) H := hP
    have hD : va_D A (qa_W h c o co (u, vp_updL fo 0 r.toInt64)) := hD
    refine lv_goto (tgt := 15) hx hb d_A_remove_9 (by decide) ?_
    refine lv_iconst (v := 0) hx hb d_A_remove_15 (by decide) ?_
    exact W.iret (v := 0) hx hb hr (fun t ht hW => ⟨⟨0, (u, vp_updL fo 0 r.toInt64), rfl, ⟨by rw [hw]; rfl, by rw [hw]; rfl⟩, by rw [ht]; exact hP, va_K.moved hW.alike hK, hD⟩, hS.F ht⟩) hS.2.2 d_A_remove_16

theorem d_A_set_0 : decode b_A_set 0 = .ok (.aload 5, 2) := by decide +kernel
theorem d_A_set_2 : decode b_A_set 2 = .ok (.iconst 0, 1) := by decide +kernel
theorem d_A_set_3 : decode b_A_set 3 = .ok (.aload_n 0, 1) := by decide +kernel
theorem d_A_set_4 : decode b_A_set 4 = .ok (.iload_n 1, 1) := by decide +kernel
theorem d_A_set_5 : decode b_A_set 5 = .ok (.iload_n 2, 1) := by decide +kernel
theorem d_A_set_6 : decode b_A_set 6 = .ok (.dload_n 3, 1) := by decide +kernel
theorem d_A_set_7 : decode b_A_set 7 = .ok (.invokevirtual 31, 3) := by decide +kernel
theorem d_A_set_10 : decode b_A_set 10 = .ok (.dastore, 1) := by decide +kernel
theorem d_A_set_11 : decode b_A_set 11 = .ok (.goto 11, 3) := by decide +kernel
theorem d_A_set_14 : decode b_A_set 14 = .ok (.astore 6, 2) := by decide +kernel
theorem d_A_set_16 : decode b_A_set 16 = .ok (.iconst 1, 1) := by decide +kernel
theorem d_A_set_17 : decode b_A_set 17 = .ok (.ireturn, 1) := by decide +kernel
theorem d_A_set_18 : decode b_A_set 18 = .ok (.astore 6, 2) := by decide +kernel
theorem d_A_set_20 : decode b_A_set 20 = .ok (.iconst 2, 1) := by decide +kernel
theorem d_A_set_21 : decode b_A_set 21 = .ok (.ireturn, 1) := by decide +kernel
theorem d_A_set_22 : decode b_A_set 22 = .ok (.iconst 0, 1) := by decide +kernel
theorem d_A_set_23 : decode b_A_set 23 = .ok (.ireturn, 1) := by decide +kernel
set_option maxHeartbeats 4000000 in
set_option maxRecDepth 100000 in
theorem c_A_set (l : Launch) (hl9 : l.stackTraces = false) (dC : Nat → ClassId) (dI : Nat → Nat → Nat) (h : Nat → Nat) (c : Nat → ClassId) (sz o : Nat) (co : ClassId) (sa127 : Nat) (sa134 : Nat) (g : Sg) (fo : Nat → UInt64) (a1 : Int32) (a2 : Int32) (a3 : UInt64) (r0 : ((String × Sg) ⊕ (UInt64 × Sg))) (hF : f_Q_set g a1 a2 a3 = some r0) : Met l y_A_set (qs_wh y_A_set b_A_set 7 (some .int) [(0, 11, 14, 29), (0, 11, 18, 13)]) ({ frames := 7, cells := 1, slots := 6, locals := 108 } : Room) (va_Pc ([.ref (h 0), .int a1, .int a2, .double a3, .ref o] : List Value) (fun U => U.heap.size = sz ∧ va_P (dC, dI) vwCl (qd_W h c o co (g, fo)) U.heap ∧ va_K (dC, dI) vwCl (qd_T c co) U ∧ va_D (fun _ => True) (qd_W h c o co (g, fo)) ∧ qs_N U ∧ vx_Zq Bundle.tN "UNASSIGNED_STACK" Bundle.steD (va_A (qd_W h c o co (g, fo)) sz) U U.heap ∧ vx_Zq Bundle.tN "SUPPRESSED_SENTINEL" Bundle.listD (va_A (qd_W h c o co (g, fo)) sz) U U.heap ∧ va_Nc "java/lang/IllegalStateException" "java/lang/IllegalArgumentException" U ∧ va_Nc "java/lang/IllegalArgumentException" "java/util/NoSuchElementException" U ∧ vk_R R_Q 127 "the entity is not there" sa127 U ∧ vk_R R_Q 134 "no such field or value" sa134 U)) (va_Qi (fun (r : Int32) (u : Sg × (Nat → UInt64)) => r = qa_code (["java/util/NoSuchElementException", "java/lang/IllegalArgumentException"] : List String) r0 ∧ u = (qa_st r0, qa_outd r0 fo)) (fun u t => va_P (dC, dI) vwCl (qd_W h c o co u) t.heap ∧ va_K (dC, dI) vwCl (qd_T c co) t ∧ va_D (va_A (qd_W h c o co (g, fo)) sz) (qd_W h c o co u)) (va_A (qd_W h c o co (g, fo)) sz)) 1 6 (va_A (qd_W h c o co (g, fo)) sz) := by
  refine va_MetW (cc := b_A_set) (maxL := 7) (ret := (some .int)) (hh := [(0, 11, 14, 29), (0, 11, 18, 13)]) (by decide +kernel) rfl ?_
  intro p e s m args below meth cd s₁ B hml hv
  obtain ⟨rfl, hsz, hP, hK, hD0, hNs, hU, hN, hc1, hc2, hs127, hs134⟩ := hv
  have hx := B.exec
  have hb := B.bytes
  have hr := B.returns
  have hts := atoms_spec (ws := (qs_wh y_A_set b_A_set 7 (some .int) [(0, 11, 14, 29), (0, 11, 18, 13)])) B.pre
  have hg : ∀ w ∈ qs_gt, w.before _ s = true := fun w h => hts w (List.mem_cons_of_mem _ h)
  have htab : cd.exceptionTable.toList = tableOf [(0, 11, 14, 29), (0, 11, 18, 13)] := vx_table (x := y_A_set) B (hts _ List.mem_cons_self)
  have hown : s.vm.findClass R_A = some m.cls := findClass_of_methodNamed B.named
  have hlocks := B.notSynchronized
  subst hsz
  have hD := hD0.self (sz := s.heap.size)
  generalize hAe : va_A (qd_W h c o co (g, fo)) s.heap.size = A at hD hU hN ⊢
  have hA : ∀ q : Nat, s.heap.size ≤ q → A q := fun q h => by rw [← hAe]; exact Or.inr h
  have hS : va_S A s.heap s.heap [] := va_S.rf
  have hl := lv_entry ([.ref (h 0), .int a1, .int a2, .double a3, .ref o] : List Value) (n := 7) (Nat.le_of_ble_eq_true rfl)
  rw [lg_entry_eq]
  generalize (lg_sl ([.ref (h 0), .int a1, .int a2, .double a3, .ref o] : List Value) ++ List.replicate (7 - (lg_sl ([.ref (h 0), .int a1, .int a2, .double a3, .ref o] : List Value)).length) Slot.unset).toArray = ls at hl ⊢
  have hl : lv_has ls 7 [(0, .ref (h 0)), (1, .int a1), (2, .int a2), (3, .double a3), (5, .ref o)] := hl
  obtain ⟨H, hHe⟩ : ∃ H, H = s.heap := ⟨_, rfl⟩
  obtain ⟨locs, hLe⟩ : ∃ L : List Loc, L = [] := ⟨_, rfl⟩
  rw [← hHe] at hP ⊢
  rw [← hLe]
  have hS : va_S A s.heap H locs := by rw [hHe, hLe]; exact hS
  refine lv_aload hx hb d_A_set_0 (lv_at hl 4 rfl) ?_
  refine lv_iconst (v := 0) hx hb d_A_set_2 (by decide) ?_
  refine lv_aload_n hx hb d_A_set_3 rfl (lv_at hl 0 rfl) ?_
  refine lv_iload_n hx hb d_A_set_4 rfl (lv_at hl 1 rfl) ?_
  refine lv_iload_n hx hb d_A_set_5 rfl (lv_at hl 2 rfl) ?_
  refine lv_dload_n hx hb d_A_set_6 rfl (lv_at hl 3 rfl) ?_
  have hPc := hP.sub (ws' := qs_W h c g) [0, 1, 2, 3, 4, 5, 6, 7, 8, 9, 10, 11, 12, 13, 14, 15, 16] rfl
  have hDc := hD.sub (ws' := qs_W h c g) [0, 1, 2, 3, 4, 5, 6, 7, 8, 9, 10, 11, 12, 13, 14, 15, 16] (by decide) rfl
  have hKc := hK.sub (tys' := qs_T c) [0, 1, 2, 3, 4, 5, 6, 7, 8, 9] rfl
  have hFc := va_free (wc := qs_W h c g) hD hS hA [0, 1, 2, 3, 4, 5, 6, 7, 8, 9, 10, 11, 12, 13, 14, 15, 16] rfl
  refine vx_calld (vx_runV (own := "QuakeServerLaw") (C := "QuakeServer") (As := [.int a1, .int a2, .double a3]) (rest := [.int 0, .ref o]) ⟨hx, hb, hml, hown, hg⟩ (c_Q_set l hl9 dC dI h c H.size sa127 sa134 g a1 a2 a3 r0 hF) (cwV 3 hg (qs_gV t_391 t_392 t_393 t_1 t_394) rfl rfl rfl (by decide +kernel) ⟨Nat.le_of_ble_eq_true rfl, Nat.le_of_ble_eq_true rfl⟩) ⟨fun a U g mk q => by obtain ⟨q0, q1, qP, qK, qD, qN, qU, qS, qs127, qs134⟩ := q; exact ⟨q0, q1, qP, va_K.moved (u := U) (U := U.calling g mk a) (Vm.Alike.refl U.vm) qK, qD, qs_N.same (s := U) (U := U.calling g mk a) rfl qN, vx_Zq.moved (u := U) (U := U.calling g mk a) (Vm.Alike.refl U.vm) qU, vx_Zq.moved (u := U) (U := U.calling g mk a) (Vm.Alike.refl U.vm) qS, vk_R.same (u := U) (U := U.calling g mk a) rfl qs127, vk_R.same (u := U) (U := U.calling g mk a) rfl qs134⟩, va_recv hKc hPc (ci := 6) (q0 := 0) rfl rfl, fun U9 hU9 hW9 => ⟨rfl, by rw [hU9], by rw [hU9]; exact hPc, va_K.moved hW9.alike hKc, hDc.weaken (fun _ _ _ _ => trivial), hNs.warm hW9, by rw [hU9]; exact vx_Zq.moved hW9.alike ((hU.kept hS.2.1).narrow hFc), by rw [hU9]; exact vx_Zq.moved hW9.alike ((hN.kept hS.2.1).narrow hFc), vk_R.warm hW9 hs127, vk_R.warm hW9 hs134⟩⟩ rfl rfl hl.1 rfl (lv_room (Nat.le_of_ble_eq_true rfl)) d_A_set_7 ⟨Nat.le_of_ble_eq_true rfl, Nat.le_of_ble_eq_true rfl⟩) hS (fun q _ h => hFc q h) hFc (fun q _ h => hFc q h) (fun E ce q9 u t H1 locs ht hvm _ hB hz hk hS hce hcv hcl => ?_) (fun r u t H1 locs ht hvm hw hB hz hk hS => ?_)
  · obtain ⟨⟨hw, hE⟩, hP1, hK1, hD1⟩ := hB
    rw [ht] at hP1
    obtain ⟨hP, hD⟩ := va_join (wr := [(o, .inl (co, 1, .inr (.inr (.inr (.inl fo)))))]) (w1 := qs_W h c u) hP hD [0, 1, 2, 3, 4, 5, 6, 7, 8, 9, 10, 11, 12, 13, 14, 15, 16] [17] rfl rfl (by decide) (by decide) hk hFc hP1 hD1
    have hP := hP.sub (ws' := qd_W h c o co (u, fo)) [1, 2, 3, 4, 5, 6, 7, 8, 9, 10, 11, 12, 13, 14, 15, 16, 17, 0] rfl
    have hD := hD.sub (ws' := qd_W h c o co (u, fo)) [1, 2, 3, 4, 5, 6, 7, 8, 9, 10, 11, 12, 13, 14, 15, 16, 17, 0] (by decide) rfl
    refine vx_widen (k := 1) (n := 6) (Nat.le_of_ble_eq_true rfl) (Nat.le_of_ble_eq_true rfl) ?_
    simp only [List.mem_cons, List.not_mem_nil, or_false] at hE
    rcases hE with rfl | rfl
    · refine vx_catch (own := "QuakeServerLaw") (name := "java/lang/IllegalArgumentException") hown [⟨0, 11, 14, 29⟩] ⟨0, 11, 18, 13⟩ [] htab (fun z hz => by rw [List.mem_singleton.mp hz]; exact Or.inr ⟨by decide, "java/util/NoSuchElementException", hg _ t_362, hc2⟩) (by decide) (by decide) (hg _ t_206) (va_Nw.use rfl (hNs.2.2.1 ("java/lang/IllegalArgumentException", "java/lang/IllegalArgumentException") (List.mem_of_getElem? (i := 0) rfl))) hce hcv hcl ?_
      refine lv_astore (lv' := [(6, .ref q9), (0, .ref (h 0)), (1, .int a1), (2, .int a2), (3, .double a3), (5, .ref o)]) hx hb d_A_set_18 hl (by decide) rfl (fun ls hl => ?_)
      refine lv_iconst (v := 2) hx hb d_A_set_20 (by decide) ?_
      exact W.iret (v := 2) hx hb hr (fun t ht hW => ⟨⟨2, (u, fo), rfl, ⟨by rw [hw]; rfl, by rw [hw]; rfl⟩, by rw [ht]; exact hP, va_K.moved hW.alike hK, hD⟩, hS.F ht⟩) hS.2.2 d_A_set_21
    · refine vx_catch (own := "QuakeServerLaw") (name := "java/util/NoSuchElementException") hown [] ⟨0, 11, 14, 29⟩ [⟨0, 11, 18, 13⟩] htab (fun z hz => by cases hz) (by decide) (by decide) (hg _ t_362) (va_Nw.use rfl (hNs.2.2.1 ("java/util/NoSuchElementException", "java/util/NoSuchElementException") (List.mem_of_getElem? (i := 2) rfl))) hce hcv hcl ?_
      refine lv_astore (lv' := [(6, .ref q9), (0, .ref (h 0)), (1, .int a1), (2, .int a2), (3, .double a3), (5, .ref o)]) hx hb d_A_set_14 hl (by decide) rfl (fun ls hl => ?_)
      refine lv_iconst (v := 1) hx hb d_A_set_16 (by decide) ?_
      exact W.iret (v := 1) hx hb hr (fun t ht hW => ⟨⟨1, (u, fo), rfl, ⟨by rw [hw]; rfl, by rw [hw]; rfl⟩, by rw [ht]; exact hP, va_K.moved hW.alike hK, hD⟩, hS.F ht⟩) hS.2.2 d_A_set_17
  · obtain ⟨hP1, hK1, hD1⟩ := hB
    rw [ht] at hP1
    obtain ⟨hP, hD⟩ := va_join (wr := [(o, .inl (co, 1, .inr (.inr (.inr (.inl fo)))))]) (w1 := qs_W h c u) hP hD [0, 1, 2, 3, 4, 5, 6, 7, 8, 9, 10, 11, 12, 13, 14, 15, 16] [17] rfl rfl (by decide) (by decide) hk hFc hP1 hD1
    have hP := hP.sub (ws' := qd_W h c o co (u, fo)) [1, 2, 3, 4, 5, 6, 7, 8, 9, 10, 11, 12, 13, 14, 15, 16, 17, 0] rfl
    have hD := hD.sub (ws' := qd_W h c o co (u, fo)) [1, 2, 3, 4, 5, 6, 7, 8, 9, 10, 11, 12, 13, 14, 15, 16, 17, 0] (by decide) rfl
    refine W.widen (k := 1) (n := 6) (Nat.le_of_ble_eq_true rfl) (Nat.le_of_ble_eq_true rfl) ?_
    refine va_dast hx hb hK hP hD hS 17 10 rfl rfl qa_in0 d_A_set_10 (fun H locs hP hD hS => ?_)
    have hP : va_P (dC, dI) vwCl (qd_W h c o co (u, vf_upd fo 0 r)) H := hP
    have hD : va_D A (qd_W h c o co (u, vf_upd fo 0 r)) := hD
    refine lv_goto (tgt := 22) hx hb d_A_set_11 (by decide) ?_
    refine lv_iconst (v := 0) hx hb d_A_set_22 (by decide) ?_
    exact W.iret (v := 0) hx hb hr (fun t ht hW => ⟨⟨0, (u, vf_upd fo 0 r), rfl, ⟨by rw [hw]; rfl, by rw [hw]; rfl⟩, by rw [ht]; exact hP, va_K.moved hW.alike hK, hD⟩, hS.F ht⟩) hS.2.2 d_A_set_23

theorem d_A_get_0 : decode b_A_get 0 = .ok (.aload_n 3, 1) := by decide +kernel
theorem d_A_get_1 : decode b_A_get 1 = .ok (.iconst 0, 1) := by decide +kernel
theorem d_A_get_2 : decode b_A_get 2 = .ok (.aload_n 0, 1) := by decide +kernel
theorem d_A_get_3 : decode b_A_get 3 = .ok (.iload_n 1, 1) := by decide +kernel
theorem d_A_get_4 : decode b_A_get 4 = .ok (.iload_n 2, 1) := by decide +kernel
theorem d_A_get_5 : decode b_A_get 5 = .ok (.invokevirtual 35, 3) := by decide +kernel
theorem d_A_get_8 : decode b_A_get 8 = .ok (.dastore, 1) := by decide +kernel
theorem d_A_get_9 : decode b_A_get 9 = .ok (.goto 11, 3) := by decide +kernel
theorem d_A_get_12 : decode b_A_get 12 = .ok (.astore 4, 2) := by decide +kernel
theorem d_A_get_14 : decode b_A_get 14 = .ok (.iconst 1, 1) := by decide +kernel
theorem d_A_get_15 : decode b_A_get 15 = .ok (.ireturn, 1) := by decide +kernel
theorem d_A_get_16 : decode b_A_get 16 = .ok (.astore 4, 2) := by decide +kernel
theorem d_A_get_18 : decode b_A_get 18 = .ok (.iconst 2, 1) := by decide +kernel
theorem d_A_get_19 : decode b_A_get 19 = .ok (.ireturn, 1) := by decide +kernel
theorem d_A_get_20 : decode b_A_get 20 = .ok (.iconst 0, 1) := by decide +kernel
theorem d_A_get_21 : decode b_A_get 21 = .ok (.ireturn, 1) := by decide +kernel
set_option maxHeartbeats 4000000 in
set_option maxRecDepth 100000 in
theorem c_A_get (l : Launch) (hl9 : l.stackTraces = false) (dC : Nat → ClassId) (dI : Nat → Nat → Nat) (h : Nat → Nat) (c : Nat → ClassId) (sz o : Nat) (co : ClassId) (sa127 : Nat) (sa144 : Nat) (g : Sg) (fo : Nat → UInt64) (a1 : Int32) (a2 : Int32) (r0 : ((String × Sg) ⊕ (UInt64 × Sg))) (hF : f_Q_get g a1 a2 = some r0) : Met l y_A_get (qs_wh y_A_get b_A_get 5 (some .int) [(0, 9, 12, 29), (0, 9, 16, 13)]) ({ frames := 7, cells := 1, slots := 6, locals := 104 } : Room) (va_Pc ([.ref (h 0), .int a1, .int a2, .ref o] : List Value) (fun U => U.heap.size = sz ∧ va_P (dC, dI) vwCl (qd_W h c o co (g, fo)) U.heap ∧ va_K (dC, dI) vwCl (qd_T c co) U ∧ va_D (fun _ => True) (qd_W h c o co (g, fo)) ∧ qs_N U ∧ vx_Zq Bundle.tN "UNASSIGNED_STACK" Bundle.steD (va_A (qd_W h c o co (g, fo)) sz) U U.heap ∧ vx_Zq Bundle.tN "SUPPRESSED_SENTINEL" Bundle.listD (va_A (qd_W h c o co (g, fo)) sz) U U.heap ∧ va_Nc "java/lang/IllegalStateException" "java/lang/IllegalArgumentException" U ∧ va_Nc "java/lang/IllegalArgumentException" "java/util/NoSuchElementException" U ∧ vk_R R_Q 127 "the entity is not there" sa127 U ∧ vk_R R_Q 144 "no such field" sa144 U)) (va_Qi (fun (r : Int32) (u : Sg × (Nat → UInt64)) => r = qa_code (["java/util/NoSuchElementException", "java/lang/IllegalArgumentException"] : List String) r0 ∧ u = (qa_st r0, qa_outd r0 fo)) (fun u t => va_P (dC, dI) vwCl (qd_W h c o co u) t.heap ∧ va_K (dC, dI) vwCl (qd_T c co) t ∧ va_D (va_A (qd_W h c o co (g, fo)) sz) (qd_W h c o co u)) (va_A (qd_W h c o co (g, fo)) sz)) 1 6 (va_A (qd_W h c o co (g, fo)) sz) := by
  refine va_MetW (cc := b_A_get) (maxL := 5) (ret := (some .int)) (hh := [(0, 9, 12, 29), (0, 9, 16, 13)]) (by decide +kernel) rfl ?_
  intro p e s m args below meth cd s₁ B hml hv
  obtain ⟨rfl, hsz, hP, hK, hD0, hNs, hU, hN, hc1, hc2, hs127, hs144⟩ := hv
  have hx := B.exec
  have hb := B.bytes
  have hr := B.returns
  have hts := atoms_spec (ws := (qs_wh y_A_get b_A_get 5 (some .int) [(0, 9, 12, 29), (0, 9, 16, 13)])) B.pre
  have hg : ∀ w ∈ qs_gt, w.before _ s = true := fun w h => hts w (List.mem_cons_of_mem _ h)
  have htab : cd.exceptionTable.toList = tableOf [(0, 9, 12, 29), (0, 9, 16, 13)] := vx_table (x := y_A_get) B (hts _ List.mem_cons_self)
  have hown : s.vm.findClass R_A = some m.cls := findClass_of_methodNamed B.named
  have hlocks := B.notSynchronized
  subst hsz
  have hD := hD0.self (sz := s.heap.size)
  generalize hAe : va_A (qd_W h c o co (g, fo)) s.heap.size = A at hD hU hN ⊢
  have hA : ∀ q : Nat, s.heap.size ≤ q → A q := fun q h => by rw [← hAe]; exact Or.inr h
  have hS : va_S A s.heap s.heap [] := va_S.rf
  have hl := lv_entry ([.ref (h 0), .int a1, .int a2, .ref o] : List Value) (n := 5) (Nat.le_of_ble_eq_true rfl)
  rw [lg_entry_eq]
  generalize (lg_sl ([.ref (h 0), .int a1, .int a2, .ref o] : List Value) ++ List.replicate (5 - (lg_sl ([.ref (h 0), .int a1, .int a2, .ref o] : List Value)).length) Slot.unset).toArray = ls at hl ⊢
  have hl : lv_has ls 5 [(0, .ref (h 0)), (1, .int a1), (2, .int a2), (3, .ref o)] := hl
  obtain ⟨H, hHe⟩ : ∃ H, H = s.heap := ⟨_, rfl⟩
  obtain ⟨locs, hLe⟩ : ∃ L : List Loc, L = [] := ⟨_, rfl⟩
  rw [← hHe] at hP ⊢
  rw [← hLe]
  have hS : va_S A s.heap H locs := by rw [hHe, hLe]; exact hS
  refine lv_aload_n hx hb d_A_get_0 rfl (lv_at hl 3 rfl) ?_
  refine lv_iconst (v := 0) hx hb d_A_get_1 (by decide) ?_
  refine lv_aload_n hx hb d_A_get_2 rfl (lv_at hl 0 rfl) ?_
  refine lv_iload_n hx hb d_A_get_3 rfl (lv_at hl 1 rfl) ?_
  refine lv_iload_n hx hb d_A_get_4 rfl (lv_at hl 2 rfl) ?_
  have hPc := hP.sub (ws' := qs_W h c g) [0, 1, 2, 3, 4, 5, 6, 7, 8, 9, 10, 11, 12, 13, 14, 15, 16] rfl
  have hDc := hD.sub (ws' := qs_W h c g) [0, 1, 2, 3, 4, 5, 6, 7, 8, 9, 10, 11, 12, 13, 14, 15, 16] (by decide) rfl
  have hKc := hK.sub (tys' := qs_T c) [0, 1, 2, 3, 4, 5, 6, 7, 8, 9] rfl
  have hFc := va_free (wc := qs_W h c g) hD hS hA [0, 1, 2, 3, 4, 5, 6, 7, 8, 9, 10, 11, 12, 13, 14, 15, 16] rfl
  refine vx_calld (vx_runV (own := "QuakeServerLaw") (C := "QuakeServer") (As := [.int a1, .int a2]) (rest := [.int 0, .ref o]) ⟨hx, hb, hml, hown, hg⟩ (c_Q_get l hl9 dC dI h c H.size sa127 sa144 g a1 a2 r0 hF) (cwV 2 hg (qs_gV t_403 t_404 t_405 t_1 t_406) rfl rfl rfl (by decide +kernel) ⟨Nat.le_of_ble_eq_true rfl, Nat.le_of_ble_eq_true rfl⟩) ⟨fun a U g mk q => by obtain ⟨q0, q1, qP, qK, qD, qN, qU, qS, qs127, qs144⟩ := q; exact ⟨q0, q1, qP, va_K.moved (u := U) (U := U.calling g mk a) (Vm.Alike.refl U.vm) qK, qD, qs_N.same (s := U) (U := U.calling g mk a) rfl qN, vx_Zq.moved (u := U) (U := U.calling g mk a) (Vm.Alike.refl U.vm) qU, vx_Zq.moved (u := U) (U := U.calling g mk a) (Vm.Alike.refl U.vm) qS, vk_R.same (u := U) (U := U.calling g mk a) rfl qs127, vk_R.same (u := U) (U := U.calling g mk a) rfl qs144⟩, va_recv hKc hPc (ci := 6) (q0 := 0) rfl rfl, fun U9 hU9 hW9 => ⟨rfl, by rw [hU9], by rw [hU9]; exact hPc, va_K.moved hW9.alike hKc, hDc.weaken (fun _ _ _ _ => trivial), hNs.warm hW9, by rw [hU9]; exact vx_Zq.moved hW9.alike ((hU.kept hS.2.1).narrow hFc), by rw [hU9]; exact vx_Zq.moved hW9.alike ((hN.kept hS.2.1).narrow hFc), vk_R.warm hW9 hs127, vk_R.warm hW9 hs144⟩⟩ rfl rfl hl.1 rfl (lv_room (Nat.le_of_ble_eq_true rfl)) d_A_get_5 ⟨Nat.le_of_ble_eq_true rfl, Nat.le_of_ble_eq_true rfl⟩) hS (fun q _ h => hFc q h) hFc (fun q _ h => hFc q h) (fun E ce q9 u t H1 locs ht hvm _ hB hz hk hS hce hcv hcl => ?_) (fun r u t H1 locs ht hvm hw hB hz hk hS => ?_)
  · obtain ⟨⟨hw, hE⟩, hP1, hK1, hD1⟩ := hB
    rw [ht] at hP1
    obtain ⟨hP, hD⟩ := va_join (wr := [(o, .inl (co, 1, .inr (.inr (.inr (.inl fo)))))]) (w1 := qs_W h c u) hP hD [0, 1, 2, 3, 4, 5, 6, 7, 8, 9, 10, 11, 12, 13, 14, 15, 16] [17] rfl rfl (by decide) (by decide) hk hFc hP1 hD1
    have hP := hP.sub (ws' := qd_W h c o co (u, fo)) [1, 2, 3, 4, 5, 6, 7, 8, 9, 10, 11, 12, 13, 14, 15, 16, 17, 0] rfl
    have hD := hD.sub (ws' := qd_W h c o co (u, fo)) [1, 2, 3, 4, 5, 6, 7, 8, 9, 10, 11, 12, 13, 14, 15, 16, 17, 0] (by decide) rfl
    refine vx_widen (k := 1) (n := 6) (Nat.le_of_ble_eq_true rfl) (Nat.le_of_ble_eq_true rfl) ?_
    simp only [List.mem_cons, List.not_mem_nil, or_false] at hE
    rcases hE with rfl | rfl
    · refine vx_catch (own := "QuakeServerLaw") (name := "java/lang/IllegalArgumentException") hown [⟨0, 9, 12, 29⟩] ⟨0, 9, 16, 13⟩ [] htab (fun z hz => by rw [List.mem_singleton.mp hz]; exact Or.inr ⟨by decide, "java/util/NoSuchElementException", hg _ t_362, hc2⟩) (by decide) (by decide) (hg _ t_206) (va_Nw.use rfl (hNs.2.2.1 ("java/lang/IllegalArgumentException", "java/lang/IllegalArgumentException") (List.mem_of_getElem? (i := 0) rfl))) hce hcv hcl ?_
      refine lv_astore (lv' := [(4, .ref q9), (0, .ref (h 0)), (1, .int a1), (2, .int a2), (3, .ref o)]) hx hb d_A_get_16 hl (by decide) rfl (fun ls hl => ?_)
      refine lv_iconst (v := 2) hx hb d_A_get_18 (by decide) ?_
      exact W.iret (v := 2) hx hb hr (fun t ht hW => ⟨⟨2, (u, fo), rfl, ⟨by rw [hw]; rfl, by rw [hw]; rfl⟩, by rw [ht]; exact hP, va_K.moved hW.alike hK, hD⟩, hS.F ht⟩) hS.2.2 d_A_get_19
    · refine vx_catch (own := "QuakeServerLaw") (name := "java/util/NoSuchElementException") hown [] ⟨0, 9, 12, 29⟩ [⟨0, 9, 16, 13⟩] htab (fun z hz => by cases hz) (by decide) (by decide) (hg _ t_362) (va_Nw.use rfl (hNs.2.2.1 ("java/util/NoSuchElementException", "java/util/NoSuchElementException") (List.mem_of_getElem? (i := 2) rfl))) hce hcv hcl ?_
      refine lv_astore (lv' := [(4, .ref q9), (0, .ref (h 0)), (1, .int a1), (2, .int a2), (3, .ref o)]) hx hb d_A_get_12 hl (by decide) rfl (fun ls hl => ?_)
      refine lv_iconst (v := 1) hx hb d_A_get_14 (by decide) ?_
      exact W.iret (v := 1) hx hb hr (fun t ht hW => ⟨⟨1, (u, fo), rfl, ⟨by rw [hw]; rfl, by rw [hw]; rfl⟩, by rw [ht]; exact hP, va_K.moved hW.alike hK, hD⟩, hS.F ht⟩) hS.2.2 d_A_get_15
  · obtain ⟨hP1, hK1, hD1⟩ := hB
    rw [ht] at hP1
    obtain ⟨hP, hD⟩ := va_join (wr := [(o, .inl (co, 1, .inr (.inr (.inr (.inl fo)))))]) (w1 := qs_W h c u) hP hD [0, 1, 2, 3, 4, 5, 6, 7, 8, 9, 10, 11, 12, 13, 14, 15, 16] [17] rfl rfl (by decide) (by decide) hk hFc hP1 hD1
    have hP := hP.sub (ws' := qd_W h c o co (u, fo)) [1, 2, 3, 4, 5, 6, 7, 8, 9, 10, 11, 12, 13, 14, 15, 16, 17, 0] rfl
    have hD := hD.sub (ws' := qd_W h c o co (u, fo)) [1, 2, 3, 4, 5, 6, 7, 8, 9, 10, 11, 12, 13, 14, 15, 16, 17, 0] (by decide) rfl
    refine W.widen (k := 1) (n := 6) (Nat.le_of_ble_eq_true rfl) (Nat.le_of_ble_eq_true rfl) ?_
    refine va_dast hx hb hK hP hD hS 17 10 rfl rfl qa_in0 d_A_get_8 (fun H locs hP hD hS => ?_)
    have hP : va_P (dC, dI) vwCl (qd_W h c o co (u, vf_upd fo 0 r)) H := hP
    have hD : va_D A (qd_W h c o co (u, vf_upd fo 0 r)) := hD
    refine lv_goto (tgt := 20) hx hb d_A_get_9 (by decide) ?_
    refine lv_iconst (v := 0) hx hb d_A_get_20 (by decide) ?_
    exact W.iret (v := 0) hx hb hr (fun t ht hW => ⟨⟨0, (u, vf_upd fo 0 r), rfl, ⟨by rw [hw]; rfl, by rw [hw]; rfl⟩, by rw [ht]; exact hP, va_K.moved hW.alike hK, hD⟩, hS.F ht⟩) hS.2.2 d_A_get_21

theorem d_A_setGlobal_0 : decode b_A_setGlobal 0 = .ok (.aload_n 3, 1) := by decide +kernel
theorem d_A_setGlobal_1 : decode b_A_setGlobal 1 = .ok (.iconst 0, 1) := by decide +kernel
theorem d_A_setGlobal_2 : decode b_A_setGlobal 2 = .ok (.aload_n 0, 1) := by decide +kernel
theorem d_A_setGlobal_3 : decode b_A_setGlobal 3 = .ok (.iload_n 1, 1) := by decide +kernel
theorem d_A_setGlobal_4 : decode b_A_setGlobal 4 = .ok (.iload_n 2, 1) := by decide +kernel
theorem d_A_setGlobal_5 : decode b_A_setGlobal 5 = .ok (.invokevirtual 39, 3) := by decide +kernel
theorem d_A_setGlobal_8 : decode b_A_setGlobal 8 = .ok (.i2l, 1) := by decide +kernel
theorem d_A_setGlobal_9 : decode b_A_setGlobal 9 = .ok (.lastore, 1) := by decide +kernel
theorem d_A_setGlobal_10 : decode b_A_setGlobal 10 = .ok (.goto 7, 3) := by decide +kernel
theorem d_A_setGlobal_13 : decode b_A_setGlobal 13 = .ok (.astore 4, 2) := by decide +kernel
theorem d_A_setGlobal_15 : decode b_A_setGlobal 15 = .ok (.iconst 1, 1) := by decide +kernel
theorem d_A_setGlobal_16 : decode b_A_setGlobal 16 = .ok (.ireturn, 1) := by decide +kernel
theorem d_A_setGlobal_17 : decode b_A_setGlobal 17 = .ok (.iconst 0, 1) := by decide +kernel
theorem d_A_setGlobal_18 : decode b_A_setGlobal 18 = .ok (.ireturn, 1) := by decide +kernel
set_option maxHeartbeats 4000000 in
set_option maxRecDepth 100000 in
theorem c_A_setGlobal (l : Launch) (hl9 : l.stackTraces = false) (dC : Nat → ClassId) (dI : Nat → Nat → Nat) (h : Nat → Nat) (c : Nat → ClassId) (sz o : Nat) (co : ClassId) (sa148 : Nat) (g : Sg) (fo : Nat → Int64) (a1 : Int32) (a2 : Int32) (r0 : ((String × Sg) ⊕ (Int32 × Sg))) (hF : f_Q_setGlobal g a1 a2 = some r0) : Met l y_A_setGlobal (qs_wh y_A_setGlobal b_A_setGlobal 5 (some .int) [(0, 10, 13, 13)]) ({ frames := 7, cells := 1, slots := 6, locals := 105 } : Room) (va_Pc ([.ref (h 0), .int a1, .int a2, .ref o] : List Value) (fun U => U.heap.size = sz ∧ va_P (dC, dI) vwCl (qa_W h c o co (g, fo)) U.heap ∧ va_K (dC, dI) vwCl (qa_T c co) U ∧ va_D (fun _ => True) (qa_W h c o co (g, fo)) ∧ qs_N U ∧ vx_Zq Bundle.tN "UNASSIGNED_STACK" Bundle.steD (va_A (qa_W h c o co (g, fo)) sz) U U.heap ∧ vx_Zq Bundle.tN "SUPPRESSED_SENTINEL" Bundle.listD (va_A (qa_W h c o co (g, fo)) sz) U U.heap ∧ va_Nc "java/lang/IllegalStateException" "java/lang/IllegalArgumentException" U ∧ va_Nc "java/lang/IllegalArgumentException" "java/util/NoSuchElementException" U ∧ vk_R R_Q 148 "no such global or number" sa148 U)) (va_Qi (fun (r : Int32) (u : Sg × (Nat → Int64)) => r = qa_code (["java/lang/IllegalArgumentException"] : List String) r0 ∧ u = (qa_st r0, qa_out r0 fo)) (fun u t => va_P (dC, dI) vwCl (qa_W h c o co u) t.heap ∧ va_K (dC, dI) vwCl (qa_T c co) t ∧ va_D (va_A (qa_W h c o co (g, fo)) sz) (qa_W h c o co u)) (va_A (qa_W h c o co (g, fo)) sz)) 1 6 (va_A (qa_W h c o co (g, fo)) sz) := by
  refine va_MetW (cc := b_A_setGlobal) (maxL := 5) (ret := (some .int)) (hh := [(0, 10, 13, 13)]) (by decide +kernel) rfl ?_
  intro p e s m args below meth cd s₁ B hml hv
  obtain ⟨rfl, hsz, hP, hK, hD0, hNs, hU, hN, hc1, hc2, hs148⟩ := hv
  have hx := B.exec
  have hb := B.bytes
  have hr := B.returns
  have hts := atoms_spec (ws := (qs_wh y_A_setGlobal b_A_setGlobal 5 (some .int) [(0, 10, 13, 13)])) B.pre
  have hg : ∀ w ∈ qs_gt, w.before _ s = true := fun w h => hts w (List.mem_cons_of_mem _ h)
  have htab : cd.exceptionTable.toList = tableOf [(0, 10, 13, 13)] := vx_table (x := y_A_setGlobal) B (hts _ List.mem_cons_self)
  have hown : s.vm.findClass R_A = some m.cls := findClass_of_methodNamed B.named
  have hlocks := B.notSynchronized
  subst hsz
  have hD := hD0.self (sz := s.heap.size)
  generalize hAe : va_A (qa_W h c o co (g, fo)) s.heap.size = A at hD hU hN ⊢
  have hA : ∀ q : Nat, s.heap.size ≤ q → A q := fun q h => by rw [← hAe]; exact Or.inr h
  have hS : va_S A s.heap s.heap [] := va_S.rf
  have hl := lv_entry ([.ref (h 0), .int a1, .int a2, .ref o] : List Value) (n := 5) (Nat.le_of_ble_eq_true rfl)
  rw [lg_entry_eq]
  generalize (lg_sl ([.ref (h 0), .int a1, .int a2, .ref o] : List Value) ++ List.replicate (5 - (lg_sl ([.ref (h 0), .int a1, .int a2, .ref o] : List Value)).length) Slot.unset).toArray = ls at hl ⊢
  have hl : lv_has ls 5 [(0, .ref (h 0)), (1, .int a1), (2, .int a2), (3, .ref o)] := hl
  obtain ⟨H, hHe⟩ : ∃ H, H = s.heap := ⟨_, rfl⟩
  obtain ⟨locs, hLe⟩ : ∃ L : List Loc, L = [] := ⟨_, rfl⟩
  rw [← hHe] at hP ⊢
  rw [← hLe]
  have hS : va_S A s.heap H locs := by rw [hHe, hLe]; exact hS
  refine lv_aload_n hx hb d_A_setGlobal_0 rfl (lv_at hl 3 rfl) ?_
  refine lv_iconst (v := 0) hx hb d_A_setGlobal_1 (by decide) ?_
  refine lv_aload_n hx hb d_A_setGlobal_2 rfl (lv_at hl 0 rfl) ?_
  refine lv_iload_n hx hb d_A_setGlobal_3 rfl (lv_at hl 1 rfl) ?_
  refine lv_iload_n hx hb d_A_setGlobal_4 rfl (lv_at hl 2 rfl) ?_
  have hPc := hP.sub (ws' := qs_W h c g) [0, 1, 2, 3, 4, 5, 6, 7, 8, 9, 10, 11, 12, 13, 14, 15, 16] rfl
  have hDc := hD.sub (ws' := qs_W h c g) [0, 1, 2, 3, 4, 5, 6, 7, 8, 9, 10, 11, 12, 13, 14, 15, 16] (by decide) rfl
  have hKc := hK.sub (tys' := qs_T c) [0, 1, 2, 3, 4, 5, 6, 7, 8, 9] rfl
  have hFc := va_free (wc := qs_W h c g) hD hS hA [0, 1, 2, 3, 4, 5, 6, 7, 8, 9, 10, 11, 12, 13, 14, 15, 16] rfl
  refine vx_calli (vx_runV (own := "QuakeServerLaw") (C := "QuakeServer") (As := [.int a1, .int a2]) (rest := [.int 0, .ref o]) ⟨hx, hb, hml, hown, hg⟩ (c_Q_setGlobal l hl9 dC dI h c H.size sa148 g a1 a2 r0 hF) (cwV 2 hg (qs_gV t_411 t_412 t_413 t_1 t_414) rfl rfl rfl (by decide +kernel) ⟨Nat.le_of_ble_eq_true rfl, Nat.le_of_ble_eq_true rfl⟩) ⟨fun a U g mk q => by obtain ⟨q0, q1, qP, qK, qD, qN, qU, qS, qs148⟩ := q; exact ⟨q0, q1, qP, va_K.moved (u := U) (U := U.calling g mk a) (Vm.Alike.refl U.vm) qK, qD, qs_N.same (s := U) (U := U.calling g mk a) rfl qN, vx_Zq.moved (u := U) (U := U.calling g mk a) (Vm.Alike.refl U.vm) qU, vx_Zq.moved (u := U) (U := U.calling g mk a) (Vm.Alike.refl U.vm) qS, vk_R.same (u := U) (U := U.calling g mk a) rfl qs148⟩, va_recv hKc hPc (ci := 6) (q0 := 0) rfl rfl, fun U9 hU9 hW9 => ⟨rfl, by rw [hU9], by rw [hU9]; exact hPc, va_K.moved hW9.alike hKc, hDc.weaken (fun _ _ _ _ => trivial), hNs.warm hW9, by rw [hU9]; exact vx_Zq.moved hW9.alike ((hU.kept hS.2.1).narrow hFc), by rw [hU9]; exact vx_Zq.moved hW9.alike ((hN.kept hS.2.1).narrow hFc), vk_R.warm hW9 hs148⟩⟩ rfl rfl hl.1 rfl (lv_room (Nat.le_of_ble_eq_true rfl)) d_A_setGlobal_5 ⟨Nat.le_of_ble_eq_true rfl, Nat.le_of_ble_eq_true rfl⟩) hS (fun q _ h => hFc q h) hFc (fun q _ h => hFc q h) (fun E ce q9 u t H1 locs ht hvm _ hB hz hk hS hce hcv hcl => ?_) (fun r u t H1 locs ht hvm hw hB hz hk hS => ?_)
  · obtain ⟨⟨hw, hE⟩, hP1, hK1, hD1⟩ := hB
    rw [ht] at hP1
    obtain ⟨hP, hD⟩ := va_join (wr := [(o, .inl (co, 1, .inr (.inl fo)))]) (w1 := qs_W h c u) hP hD [0, 1, 2, 3, 4, 5, 6, 7, 8, 9, 10, 11, 12, 13, 14, 15, 16] [17] rfl rfl (by decide) (by decide) hk hFc hP1 hD1
    have hP := hP.sub (ws' := qa_W h c o co (u, fo)) [1, 2, 3, 4, 5, 6, 7, 8, 9, 10, 11, 12, 13, 14, 15, 16, 17, 0] rfl
    have hD := hD.sub (ws' := qa_W h c o co (u, fo)) [1, 2, 3, 4, 5, 6, 7, 8, 9, 10, 11, 12, 13, 14, 15, 16, 17, 0] (by decide) rfl
    refine vx_widen (k := 1) (n := 6) (Nat.le_of_ble_eq_true rfl) (Nat.le_of_ble_eq_true rfl) ?_
    simp only [List.mem_cons, List.not_mem_nil, or_false] at hE
    subst hE
    refine vx_catch (own := "QuakeServerLaw") (name := "java/lang/IllegalArgumentException") hown [] ⟨0, 10, 13, 13⟩ [] htab (fun z hz => by cases hz) (by decide) (by decide) (hg _ t_206) (va_Nw.use rfl (hNs.2.2.1 ("java/lang/IllegalArgumentException", "java/lang/IllegalArgumentException") (List.mem_of_getElem? (i := 0) rfl))) hce hcv hcl ?_
    refine lv_astore (lv' := [(4, .ref q9), (0, .ref (h 0)), (1, .int a1), (2, .int a2), (3, .ref o)]) hx hb d_A_setGlobal_13 hl (by decide) rfl (fun ls hl => ?_)
    refine lv_iconst (v := 1) hx hb d_A_setGlobal_15 (by decide) ?_
    exact W.iret (v := 1) hx hb hr (fun t ht hW => ⟨⟨1, (u, fo), rfl, ⟨by rw [hw]; rfl, by rw [hw]; rfl⟩, by rw [ht]; exact hP, va_K.moved hW.alike hK, hD⟩, hS.F ht⟩) hS.2.2 d_A_setGlobal_16
  · obtain ⟨hP1, hK1, hD1⟩ := hB
    rw [ht] at hP1
    obtain ⟨hP, hD⟩ := va_join (wr := [(o, .inl (co, 1, .inr (.inl fo)))]) (w1 := qs_W h c u) hP hD [0, 1, 2, 3, 4, 5, 6, 7, 8, 9, 10, 11, 12, 13, 14, 15, 16] [17] rfl rfl (by decide) (by decide) hk hFc hP1 hD1
    have hP := hP.sub (ws' := qa_W h c o co (u, fo)) [1, 2, 3, 4, 5, 6, 7, 8, 9, 10, 11, 12, 13, 14, 15, 16, 17, 0] rfl
    have hD := hD.sub (ws' := qa_W h c o co (u, fo)) [1, 2, 3, 4, 5, 6, 7, 8, 9, 10, 11, 12, 13, 14, 15, 16, 17, 0] (by decide) rfl
    refine W.widen (k := 1) (n := 6) (Nat.le_of_ble_eq_true rfl) (Nat.le_of_ble_eq_true rfl) ?_
    refine lv_i2l (v := r.toInt64) hx hb d_A_setGlobal_8 rfl ?_
    refine va_last hx hb hK hP hD hS 17 10 rfl rfl qa_in0 d_A_setGlobal_9 (fun H locs hP hD hS => ?_)
    have hP : va_P (dC, dI) vwCl (qa_W h c o co (u, vp_updL fo 0 r.toInt64)) H := hP
    have hD : va_D A (qa_W h c o co (u, vp_updL fo 0 r.toInt64)) := hD
    refine lv_goto (tgt := 17) hx hb d_A_setGlobal_10 (by decide) ?_
    refine lv_iconst (v := 0) hx hb d_A_setGlobal_17 (by decide) ?_
    exact W.iret (v := 0) hx hb hr (fun t ht hW => ⟨⟨0, (u, vp_updL fo 0 r.toInt64), rfl, ⟨by rw [hw]; rfl, by rw [hw]; rfl⟩, by rw [ht]; exact hP, va_K.moved hW.alike hK, hD⟩, hS.F ht⟩) hS.2.2 d_A_setGlobal_18

theorem d_A_global_0 : decode b_A_global 0 = .ok (.aload_n 2, 1) := by decide +kernel
theorem d_A_global_1 : decode b_A_global 1 = .ok (.iconst 0, 1) := by decide +kernel
theorem d_A_global_2 : decode b_A_global 2 = .ok (.aload_n 0, 1) := by decide +kernel
theorem d_A_global_3 : decode b_A_global 3 = .ok (.iload_n 1, 1) := by decide +kernel
theorem d_A_global_4 : decode b_A_global 4 = .ok (.invokevirtual 43, 3) := by decide +kernel
theorem d_A_global_7 : decode b_A_global 7 = .ok (.i2l, 1) := by decide +kernel
theorem d_A_global_8 : decode b_A_global 8 = .ok (.lastore, 1) := by decide +kernel
theorem d_A_global_9 : decode b_A_global 9 = .ok (.goto 6, 3) := by decide +kernel
theorem d_A_global_12 : decode b_A_global 12 = .ok (.astore_n 3, 1) := by decide +kernel
theorem d_A_global_13 : decode b_A_global 13 = .ok (.iconst 1, 1) := by decide +kernel
theorem d_A_global_14 : decode b_A_global 14 = .ok (.ireturn, 1) := by decide +kernel
theorem d_A_global_15 : decode b_A_global 15 = .ok (.iconst 0, 1) := by decide +kernel
theorem d_A_global_16 : decode b_A_global 16 = .ok (.ireturn, 1) := by decide +kernel
set_option maxHeartbeats 4000000 in
set_option maxRecDepth 100000 in
theorem c_A_global (l : Launch) (hl9 : l.stackTraces = false) (dC : Nat → ClassId) (dI : Nat → Nat → Nat) (h : Nat → Nat) (c : Nat → ClassId) (sz o : Nat) (co : ClassId) (sa154 : Nat) (g : Sg) (fo : Nat → Int64) (a1 : Int32) (r0 : ((String × Sg) ⊕ (Int32 × Sg))) (hF : f_Q_global g a1 = some r0) : Met l y_A_global (qs_wh y_A_global b_A_global 4 (some .int) [(0, 9, 12, 13)]) ({ frames := 7, cells := 1, slots := 6, locals := 103 } : Room) (va_Pc ([.ref (h 0), .int a1, .ref o] : List Value) (fun U => U.heap.size = sz ∧ va_P (dC, dI) vwCl (qa_W h c o co (g, fo)) U.heap ∧ va_K (dC, dI) vwCl (qa_T c co) U ∧ va_D (fun _ => True) (qa_W h c o co (g, fo)) ∧ qs_N U ∧ vx_Zq Bundle.tN "UNASSIGNED_STACK" Bundle.steD (va_A (qa_W h c o co (g, fo)) sz) U U.heap ∧ vx_Zq Bundle.tN "SUPPRESSED_SENTINEL" Bundle.listD (va_A (qa_W h c o co (g, fo)) sz) U U.heap ∧ va_Nc "java/lang/IllegalStateException" "java/lang/IllegalArgumentException" U ∧ va_Nc "java/lang/IllegalArgumentException" "java/util/NoSuchElementException" U ∧ vk_R R_Q 154 "no such global" sa154 U)) (va_Qi (fun (r : Int32) (u : Sg × (Nat → Int64)) => r = qa_code (["java/lang/IllegalArgumentException"] : List String) r0 ∧ u = (qa_st r0, qa_out r0 fo)) (fun u t => va_P (dC, dI) vwCl (qa_W h c o co u) t.heap ∧ va_K (dC, dI) vwCl (qa_T c co) t ∧ va_D (va_A (qa_W h c o co (g, fo)) sz) (qa_W h c o co u)) (va_A (qa_W h c o co (g, fo)) sz)) 1 6 (va_A (qa_W h c o co (g, fo)) sz) := by
  refine va_MetW (cc := b_A_global) (maxL := 4) (ret := (some .int)) (hh := [(0, 9, 12, 13)]) (by decide +kernel) rfl ?_
  intro p e s m args below meth cd s₁ B hml hv
  obtain ⟨rfl, hsz, hP, hK, hD0, hNs, hU, hN, hc1, hc2, hs154⟩ := hv
  have hx := B.exec
  have hb := B.bytes
  have hr := B.returns
  have hts := atoms_spec (ws := (qs_wh y_A_global b_A_global 4 (some .int) [(0, 9, 12, 13)])) B.pre
  have hg : ∀ w ∈ qs_gt, w.before _ s = true := fun w h => hts w (List.mem_cons_of_mem _ h)
  have htab : cd.exceptionTable.toList = tableOf [(0, 9, 12, 13)] := vx_table (x := y_A_global) B (hts _ List.mem_cons_self)
  have hown : s.vm.findClass R_A = some m.cls := findClass_of_methodNamed B.named
  have hlocks := B.notSynchronized
  subst hsz
  have hD := hD0.self (sz := s.heap.size)
  generalize hAe : va_A (qa_W h c o co (g, fo)) s.heap.size = A at hD hU hN ⊢
  have hA : ∀ q : Nat, s.heap.size ≤ q → A q := fun q h => by rw [← hAe]; exact Or.inr h
  have hS : va_S A s.heap s.heap [] := va_S.rf
  have hl := lv_entry ([.ref (h 0), .int a1, .ref o] : List Value) (n := 4) (Nat.le_of_ble_eq_true rfl)
  rw [lg_entry_eq]
  generalize (lg_sl ([.ref (h 0), .int a1, .ref o] : List Value) ++ List.replicate (4 - (lg_sl ([.ref (h 0), .int a1, .ref o] : List Value)).length) Slot.unset).toArray = ls at hl ⊢
  have hl : lv_has ls 4 [(0, .ref (h 0)), (1, .int a1), (2, .ref o)] := hl
  obtain ⟨H, hHe⟩ : ∃ H, H = s.heap := ⟨_, rfl⟩
  obtain ⟨locs, hLe⟩ : ∃ L : List Loc, L = [] := ⟨_, rfl⟩
  rw [← hHe] at hP ⊢
  rw [← hLe]
  have hS : va_S A s.heap H locs := by rw [hHe, hLe]; exact hS
  refine lv_aload_n hx hb d_A_global_0 rfl (lv_at hl 2 rfl) ?_
  refine lv_iconst (v := 0) hx hb d_A_global_1 (by decide) ?_
  refine lv_aload_n hx hb d_A_global_2 rfl (lv_at hl 0 rfl) ?_
  refine lv_iload_n hx hb d_A_global_3 rfl (lv_at hl 1 rfl) ?_
  have hPc := hP.sub (ws' := qs_W h c g) [0, 1, 2, 3, 4, 5, 6, 7, 8, 9, 10, 11, 12, 13, 14, 15, 16] rfl
  have hDc := hD.sub (ws' := qs_W h c g) [0, 1, 2, 3, 4, 5, 6, 7, 8, 9, 10, 11, 12, 13, 14, 15, 16] (by decide) rfl
  have hKc := hK.sub (tys' := qs_T c) [0, 1, 2, 3, 4, 5, 6, 7, 8, 9] rfl
  have hFc := va_free (wc := qs_W h c g) hD hS hA [0, 1, 2, 3, 4, 5, 6, 7, 8, 9, 10, 11, 12, 13, 14, 15, 16] rfl
  refine vx_calli (vx_runV (own := "QuakeServerLaw") (C := "QuakeServer") (As := [.int a1]) (rest := [.int 0, .ref o]) ⟨hx, hb, hml, hown, hg⟩ (c_Q_global l hl9 dC dI h c H.size sa154 g a1 r0 hF) (cwV 1 hg (qs_gV t_421 t_422 t_423 t_1 t_424) rfl rfl rfl (by decide +kernel) ⟨Nat.le_of_ble_eq_true rfl, Nat.le_of_ble_eq_true rfl⟩) ⟨fun a U g mk q => by obtain ⟨q0, q1, qP, qK, qD, qN, qU, qS, qs154⟩ := q; exact ⟨q0, q1, qP, va_K.moved (u := U) (U := U.calling g mk a) (Vm.Alike.refl U.vm) qK, qD, qs_N.same (s := U) (U := U.calling g mk a) rfl qN, vx_Zq.moved (u := U) (U := U.calling g mk a) (Vm.Alike.refl U.vm) qU, vx_Zq.moved (u := U) (U := U.calling g mk a) (Vm.Alike.refl U.vm) qS, vk_R.same (u := U) (U := U.calling g mk a) rfl qs154⟩, va_recv hKc hPc (ci := 6) (q0 := 0) rfl rfl, fun U9 hU9 hW9 => ⟨rfl, by rw [hU9], by rw [hU9]; exact hPc, va_K.moved hW9.alike hKc, hDc.weaken (fun _ _ _ _ => trivial), hNs.warm hW9, by rw [hU9]; exact vx_Zq.moved hW9.alike ((hU.kept hS.2.1).narrow hFc), by rw [hU9]; exact vx_Zq.moved hW9.alike ((hN.kept hS.2.1).narrow hFc), vk_R.warm hW9 hs154⟩⟩ rfl rfl hl.1 rfl (lv_room (Nat.le_of_ble_eq_true rfl)) d_A_global_4 ⟨Nat.le_of_ble_eq_true rfl, Nat.le_of_ble_eq_true rfl⟩) hS (fun q _ h => hFc q h) hFc (fun q _ h => hFc q h) (fun E ce q9 u t H1 locs ht hvm _ hB hz hk hS hce hcv hcl => ?_) (fun r u t H1 locs ht hvm hw hB hz hk hS => ?_)
  · obtain ⟨⟨hw, hE⟩, hP1, hK1, hD1⟩ := hB
    rw [ht] at hP1
    obtain ⟨hP, hD⟩ := va_join (wr := [(o, .inl (co, 1, .inr (.inl fo)))]) (w1 := qs_W h c u) hP hD [0, 1, 2, 3, 4, 5, 6, 7, 8, 9, 10, 11, 12, 13, 14, 15, 16] [17] rfl rfl (by decide) (by decide) hk hFc hP1 hD1
    have hP := hP.sub (ws' := qa_W h c o co (u, fo)) [1, 2, 3, 4, 5, 6, 7, 8, 9, 10, 11, 12, 13, 14, 15, 16, 17, 0] rfl
    have hD := hD.sub (ws' := qa_W h c o co (u, fo)) [1, 2, 3, 4, 5, 6, 7, 8, 9, 10, 11, 12, 13, 14, 15, 16, 17, 0] (by decide) rfl
    refine vx_widen (k := 1) (n := 6) (Nat.le_of_ble_eq_true rfl) (Nat.le_of_ble_eq_true rfl) ?_
    simp only [List.mem_cons, List.not_mem_nil, or_false] at hE
    subst hE
    refine vx_catch (own := "QuakeServerLaw") (name := "java/lang/IllegalArgumentException") hown [] ⟨0, 9, 12, 13⟩ [] htab (fun z hz => by cases hz) (by decide) (by decide) (hg _ t_206) (va_Nw.use rfl (hNs.2.2.1 ("java/lang/IllegalArgumentException", "java/lang/IllegalArgumentException") (List.mem_of_getElem? (i := 0) rfl))) hce hcv hcl ?_
    refine lv_astore_n (lv' := [(3, .ref q9), (0, .ref (h 0)), (1, .int a1), (2, .ref o)]) hx hb d_A_global_12 rfl hl (by decide) rfl (fun ls hl => ?_)
    refine lv_iconst (v := 1) hx hb d_A_global_13 (by decide) ?_
    exact W.iret (v := 1) hx hb hr (fun t ht hW => ⟨⟨1, (u, fo), rfl, ⟨by rw [hw]; rfl, by rw [hw]; rfl⟩, by rw [ht]; exact hP, va_K.moved hW.alike hK, hD⟩, hS.F ht⟩) hS.2.2 d_A_global_14
  · obtain ⟨hP1, hK1, hD1⟩ := hB
    rw [ht] at hP1
    obtain ⟨hP, hD⟩ := va_join (wr := [(o, .inl (co, 1, .inr (.inl fo)))]) (w1 := qs_W h c u) hP hD [0, 1, 2, 3, 4, 5, 6, 7, 8, 9, 10, 11, 12, 13, 14, 15, 16] [17] rfl rfl (by decide) (by decide) hk hFc hP1 hD1
    have hP := hP.sub (ws' := qa_W h c o co (u, fo)) [1, 2, 3, 4, 5, 6, 7, 8, 9, 10, 11, 12, 13, 14, 15, 16, 17, 0] rfl
    have hD := hD.sub (ws' := qa_W h c o co (u, fo)) [1, 2, 3, 4, 5, 6, 7, 8, 9, 10, 11, 12, 13, 14, 15, 16, 17, 0] (by decide) rfl
    refine W.widen (k := 1) (n := 6) (Nat.le_of_ble_eq_true rfl) (Nat.le_of_ble_eq_true rfl) ?_
    refine lv_i2l (v := r.toInt64) hx hb d_A_global_7 rfl ?_
    refine va_last hx hb hK hP hD hS 17 10 rfl rfl qa_in0 d_A_global_8 (fun H locs hP hD hS => ?_)
    have hP : va_P (dC, dI) vwCl (qa_W h c o co (u, vp_updL fo 0 r.toInt64)) H := hP
    have hD : va_D A (qa_W h c o co (u, vp_updL fo 0 r.toInt64)) := hD
    refine lv_goto (tgt := 15) hx hb d_A_global_9 (by decide) ?_
    refine lv_iconst (v := 0) hx hb d_A_global_15 (by decide) ?_
    exact W.iret (v := 0) hx hb hr (fun t ht hW => ⟨⟨0, (u, vp_updL fo 0 r.toInt64), rfl, ⟨by rw [hw]; rfl, by rw [hw]; rfl⟩, by rw [ht]; exact hP, va_K.moved hW.alike hK, hD⟩, hS.F ht⟩) hS.2.2 d_A_global_16

theorem d_A_run_0 : decode b_A_run 0 = .ok (.aload 4, 2) := by decide +kernel
theorem d_A_run_2 : decode b_A_run 2 = .ok (.iconst 0, 1) := by decide +kernel
theorem d_A_run_3 : decode b_A_run 3 = .ok (.aload_n 0, 1) := by decide +kernel
theorem d_A_run_4 : decode b_A_run 4 = .ok (.iload_n 1, 1) := by decide +kernel
theorem d_A_run_5 : decode b_A_run 5 = .ok (.iload_n 2, 1) := by decide +kernel
theorem d_A_run_6 : decode b_A_run 6 = .ok (.iload_n 3, 1) := by decide +kernel
theorem d_A_run_7 : decode b_A_run 7 = .ok (.invokevirtual 46, 3) := by decide +kernel
theorem d_A_run_10 : decode b_A_run 10 = .ok (.i2l, 1) := by decide +kernel
theorem d_A_run_11 : decode b_A_run 11 = .ok (.lastore, 1) := by decide +kernel
theorem d_A_run_12 : decode b_A_run 12 = .ok (.goto 7, 3) := by decide +kernel
theorem d_A_run_15 : decode b_A_run 15 = .ok (.astore 5, 2) := by decide +kernel
theorem d_A_run_17 : decode b_A_run 17 = .ok (.iconst 1, 1) := by decide +kernel
theorem d_A_run_18 : decode b_A_run 18 = .ok (.ireturn, 1) := by decide +kernel
theorem d_A_run_19 : decode b_A_run 19 = .ok (.iconst 0, 1) := by decide +kernel
theorem d_A_run_20 : decode b_A_run 20 = .ok (.ireturn, 1) := by decide +kernel
set_option maxHeartbeats 4000000 in
set_option maxRecDepth 100000 in
theorem c_A_run (l : Launch) (hl9 : l.stackTraces = false) (dC : Nat → ClassId) (dI : Nat → Nat → Nat) (h : Nat → Nat) (c : Nat → ClassId) (sz o : Nat) (co : ClassId) (sa159 : Nat) (g : Sg) (fo : Nat → Int64) (a1 : Int32) (a2 : Int32) (a3 : Int32) (r0 : ((String × Sg) ⊕ (Int32 × Sg))) (hF : f_Q_run g a1 a2 a3 = some r0) : Met l y_A_run (qs_wh y_A_run b_A_run 6 (some .int) [(0, 12, 15, 13)]) ({ frames := 7, cells := 1, slots := 6, locals := 144 } : Room) (va_Pc ([.ref (h 0), .int a1, .int a2, .int a3, .ref o] : List Value) (fun U => U.heap.size = sz ∧ va_P (dC, dI) vwCl (qa_W h c o co (g, fo)) U.heap ∧ va_K (dC, dI) vwCl (qa_T c co) U ∧ va_D (fun _ => True) (qa_W h c o co (g, fo)) ∧ qs_N U ∧ vx_Zq Bundle.tN "UNASSIGNED_STACK" Bundle.steD (va_A (qa_W h c o co (g, fo)) sz) U U.heap ∧ vx_Zq Bundle.tN "SUPPRESSED_SENTINEL" Bundle.listD (va_A (qa_W h c o co (g, fo)) sz) U U.heap ∧ va_Nc "java/lang/IllegalStateException" "java/lang/IllegalArgumentException" U ∧ va_Nc "java/lang/IllegalArgumentException" "java/util/NoSuchElementException" U ∧ vk_R R_Q 159 "no such function or entity" sa159 U)) (va_Qi (fun (r : Int32) (u : Sg × (Nat → Int64)) => r = qa_code (["java/lang/IllegalArgumentException"] : List String) r0 ∧ u = (qa_st r0, qa_out r0 fo)) (fun u t => va_P (dC, dI) vwCl (qa_W h c o co u) t.heap ∧ va_K (dC, dI) vwCl (qa_T c co) t ∧ va_D (va_A (qa_W h c o co (g, fo)) sz) (qa_W h c o co u)) (va_A (qa_W h c o co (g, fo)) sz)) 1 6 (va_A (qa_W h c o co (g, fo)) sz) := by
  refine va_MetW (cc := b_A_run) (maxL := 6) (ret := (some .int)) (hh := [(0, 12, 15, 13)]) (by decide +kernel) rfl ?_
  intro p e s m args below meth cd s₁ B hml hv
  obtain ⟨rfl, hsz, hP, hK, hD0, hNs, hU, hN, hc1, hc2, hs159⟩ := hv
  have hx := B.exec
  have hb := B.bytes
  have hr := B.returns
  have hts := atoms_spec (ws := (qs_wh y_A_run b_A_run 6 (some .int) [(0, 12, 15, 13)])) B.pre
  have hg : ∀ w ∈ qs_gt, w.before _ s = true := fun w h => hts w (List.mem_cons_of_mem _ h)
  have htab : cd.exceptionTable.toList = tableOf [(0, 12, 15, 13)] := vx_table (x := y_A_run) B (hts _ List.mem_cons_self)
  have hown : s.vm.findClass R_A = some m.cls := findClass_of_methodNamed B.named
  have hlocks := B.notSynchronized
  subst hsz
  have hD := hD0.self (sz := s.heap.size)
  generalize hAe : va_A (qa_W h c o co (g, fo)) s.heap.size = A at hD hU hN ⊢
  have hA : ∀ q : Nat, s.heap.size ≤ q → A q := fun q h => by rw [← hAe]; exact Or.inr h
  have hS : va_S A s.heap s.heap [] := va_S.rf
  have hl := lv_entry ([.ref (h 0), .int a1, .int a2, .int a3, .ref o] : List Value) (n := 6) (Nat.le_of_ble_eq_true rfl)
  rw [lg_entry_eq]
  generalize (lg_sl ([.ref (h 0), .int a1, .int a2, .int a3, .ref o] : List Value) ++ List.replicate (6 - (lg_sl ([.ref (h 0), .int a1, .int a2, .int a3, .ref o] : List Value)).length) Slot.unset).toArray = ls at hl ⊢
  have hl : lv_has ls 6 [(0, .ref (h 0)), (1, .int a1), (2, .int a2), (3, .int a3), (4, .ref o)] := hl
  obtain ⟨H, hHe⟩ : ∃ H, H = s.heap := ⟨_, rfl⟩
  obtain ⟨locs, hLe⟩ : ∃ L : List Loc, L = [] := ⟨_, rfl⟩
  rw [← hHe] at hP ⊢
  rw [← hLe]
  have hS : va_S A s.heap H locs := by rw [hHe, hLe]; exact hS
  refine lv_aload hx hb d_A_run_0 (lv_at hl 4 rfl) ?_
  refine lv_iconst (v := 0) hx hb d_A_run_2 (by decide) ?_
  refine lv_aload_n hx hb d_A_run_3 rfl (lv_at hl 0 rfl) ?_
  refine lv_iload_n hx hb d_A_run_4 rfl (lv_at hl 1 rfl) ?_
  refine lv_iload_n hx hb d_A_run_5 rfl (lv_at hl 2 rfl) ?_
  refine lv_iload_n hx hb d_A_run_6 rfl (lv_at hl 3 rfl) ?_
  have hPc := hP.sub (ws' := qs_W h c g) [0, 1, 2, 3, 4, 5, 6, 7, 8, 9, 10, 11, 12, 13, 14, 15, 16] rfl
  have hDc := hD.sub (ws' := qs_W h c g) [0, 1, 2, 3, 4, 5, 6, 7, 8, 9, 10, 11, 12, 13, 14, 15, 16] (by decide) rfl
  have hKc := hK.sub (tys' := qs_T c) [0, 1, 2, 3, 4, 5, 6, 7, 8, 9] rfl
  have hFc := va_free (wc := qs_W h c g) hD hS hA [0, 1, 2, 3, 4, 5, 6, 7, 8, 9, 10, 11, 12, 13, 14, 15, 16] rfl
  refine vx_calli (vx_runV (own := "QuakeServerLaw") (C := "QuakeServer") (As := [.int a1, .int a2, .int a3]) (rest := [.int 0, .ref o]) ⟨hx, hb, hml, hown, hg⟩ (c_Q_run l hl9 dC dI h c H.size sa159 g a1 a2 a3 r0 hF) (cwV 3 hg (qs_gV t_429 t_430 t_431 t_1 t_432) rfl rfl rfl (by decide +kernel) ⟨Nat.le_of_ble_eq_true rfl, Nat.le_of_ble_eq_true rfl⟩) ⟨fun a U g mk q => by obtain ⟨q0, q1, qP, qK, qD, qN, qU, qS, qs159⟩ := q; exact ⟨q0, q1, qP, va_K.moved (u := U) (U := U.calling g mk a) (Vm.Alike.refl U.vm) qK, qD, qs_N.same (s := U) (U := U.calling g mk a) rfl qN, vx_Zq.moved (u := U) (U := U.calling g mk a) (Vm.Alike.refl U.vm) qU, vx_Zq.moved (u := U) (U := U.calling g mk a) (Vm.Alike.refl U.vm) qS, vk_R.same (u := U) (U := U.calling g mk a) rfl qs159⟩, va_recv hKc hPc (ci := 6) (q0 := 0) rfl rfl, fun U9 hU9 hW9 => ⟨rfl, by rw [hU9], by rw [hU9]; exact hPc, va_K.moved hW9.alike hKc, hDc.weaken (fun _ _ _ _ => trivial), hNs.warm hW9, by rw [hU9]; exact vx_Zq.moved hW9.alike ((hU.kept hS.2.1).narrow hFc), by rw [hU9]; exact vx_Zq.moved hW9.alike ((hN.kept hS.2.1).narrow hFc), vk_R.warm hW9 hs159⟩⟩ rfl rfl hl.1 rfl (lv_room (Nat.le_of_ble_eq_true rfl)) d_A_run_7 ⟨Nat.le_of_ble_eq_true rfl, Nat.le_of_ble_eq_true rfl⟩) hS (fun q _ h => hFc q h) hFc (fun q _ h => hFc q h) (fun E ce q9 u t H1 locs ht hvm _ hB hz hk hS hce hcv hcl => ?_) (fun r u t H1 locs ht hvm hw hB hz hk hS => ?_)
  · obtain ⟨⟨hw, hE⟩, hP1, hK1, hD1⟩ := hB
    rw [ht] at hP1
    obtain ⟨hP, hD⟩ := va_join (wr := [(o, .inl (co, 1, .inr (.inl fo)))]) (w1 := qs_W h c u) hP hD [0, 1, 2, 3, 4, 5, 6, 7, 8, 9, 10, 11, 12, 13, 14, 15, 16] [17] rfl rfl (by decide) (by decide) hk hFc hP1 hD1
    have hP := hP.sub (ws' := qa_W h c o co (u, fo)) [1, 2, 3, 4, 5, 6, 7, 8, 9, 10, 11, 12, 13, 14, 15, 16, 17, 0] rfl
    have hD := hD.sub (ws' := qa_W h c o co (u, fo)) [1, 2, 3, 4, 5, 6, 7, 8, 9, 10, 11, 12, 13, 14, 15, 16, 17, 0] (by decide) rfl
    refine vx_widen (k := 1) (n := 6) (Nat.le_of_ble_eq_true rfl) (Nat.le_of_ble_eq_true rfl) ?_
    simp only [List.mem_cons, List.not_mem_nil, or_false] at hE
    subst hE
    refine vx_catch (own := "QuakeServerLaw") (name := "java/lang/IllegalArgumentException") hown [] ⟨0, 12, 15, 13⟩ [] htab (fun z hz => by cases hz) (by decide) (by decide) (hg _ t_206) (va_Nw.use rfl (hNs.2.2.1 ("java/lang/IllegalArgumentException", "java/lang/IllegalArgumentException") (List.mem_of_getElem? (i := 0) rfl))) hce hcv hcl ?_
    refine lv_astore (lv' := [(5, .ref q9), (0, .ref (h 0)), (1, .int a1), (2, .int a2), (3, .int a3), (4, .ref o)]) hx hb d_A_run_15 hl (by decide) rfl (fun ls hl => ?_)
    refine lv_iconst (v := 1) hx hb d_A_run_17 (by decide) ?_
    exact W.iret (v := 1) hx hb hr (fun t ht hW => ⟨⟨1, (u, fo), rfl, ⟨by rw [hw]; rfl, by rw [hw]; rfl⟩, by rw [ht]; exact hP, va_K.moved hW.alike hK, hD⟩, hS.F ht⟩) hS.2.2 d_A_run_18
  · obtain ⟨hP1, hK1, hD1⟩ := hB
    rw [ht] at hP1
    obtain ⟨hP, hD⟩ := va_join (wr := [(o, .inl (co, 1, .inr (.inl fo)))]) (w1 := qs_W h c u) hP hD [0, 1, 2, 3, 4, 5, 6, 7, 8, 9, 10, 11, 12, 13, 14, 15, 16] [17] rfl rfl (by decide) (by decide) hk hFc hP1 hD1
    have hP := hP.sub (ws' := qa_W h c o co (u, fo)) [1, 2, 3, 4, 5, 6, 7, 8, 9, 10, 11, 12, 13, 14, 15, 16, 17, 0] rfl
    have hD := hD.sub (ws' := qa_W h c o co (u, fo)) [1, 2, 3, 4, 5, 6, 7, 8, 9, 10, 11, 12, 13, 14, 15, 16, 17, 0] (by decide) rfl
    refine W.widen (k := 1) (n := 6) (Nat.le_of_ble_eq_true rfl) (Nat.le_of_ble_eq_true rfl) ?_
    refine lv_i2l (v := r.toInt64) hx hb d_A_run_10 rfl ?_
    refine va_last hx hb hK hP hD hS 17 10 rfl rfl qa_in0 d_A_run_11 (fun H locs hP hD hS => ?_)
    have hP : va_P (dC, dI) vwCl (qa_W h c o co (u, vp_updL fo 0 r.toInt64)) H := hP
    have hD : va_D A (qa_W h c o co (u, vp_updL fo 0 r.toInt64)) := hD
    refine lv_goto (tgt := 19) hx hb d_A_run_12 (by decide) ?_
    refine lv_iconst (v := 0) hx hb d_A_run_19 (by decide) ?_
    exact W.iret (v := 0) hx hb hr (fun t ht hW => ⟨⟨0, (u, vp_updL fo 0 r.toInt64), rfl, ⟨by rw [hw]; rfl, by rw [hw]; rfl⟩, by rw [ht]; exact hP, va_K.moved hW.alike hK, hD⟩, hS.F ht⟩) hS.2.2 d_A_run_20

theorem d_A_tick_0 : decode b_A_tick 0 = .ok (.aload_n 2, 1) := by decide +kernel
theorem d_A_tick_1 : decode b_A_tick 1 = .ok (.iconst 0, 1) := by decide +kernel
theorem d_A_tick_2 : decode b_A_tick 2 = .ok (.aload_n 0, 1) := by decide +kernel
theorem d_A_tick_3 : decode b_A_tick 3 = .ok (.iload_n 1, 1) := by decide +kernel
theorem d_A_tick_4 : decode b_A_tick 4 = .ok (.invokevirtual 50, 3) := by decide +kernel
theorem d_A_tick_7 : decode b_A_tick 7 = .ok (.i2l, 1) := by decide +kernel
theorem d_A_tick_8 : decode b_A_tick 8 = .ok (.lastore, 1) := by decide +kernel
theorem d_A_tick_9 : decode b_A_tick 9 = .ok (.goto 6, 3) := by decide +kernel
theorem d_A_tick_12 : decode b_A_tick 12 = .ok (.astore_n 3, 1) := by decide +kernel
theorem d_A_tick_13 : decode b_A_tick 13 = .ok (.iconst 1, 1) := by decide +kernel
theorem d_A_tick_14 : decode b_A_tick 14 = .ok (.ireturn, 1) := by decide +kernel
theorem d_A_tick_15 : decode b_A_tick 15 = .ok (.iconst 0, 1) := by decide +kernel
theorem d_A_tick_16 : decode b_A_tick 16 = .ok (.ireturn, 1) := by decide +kernel
set_option maxHeartbeats 4000000 in
set_option maxRecDepth 100000 in
theorem c_A_tick (l : Launch) (hl9 : l.stackTraces = false) (dC : Nat → ClassId) (dI : Nat → Nat → Nat) (h : Nat → Nat) (c : Nat → ClassId) (sz o : Nat) (co : ClassId) (sa165 : Nat) (g : Sg) (fo : Nat → Int64) (a1 : Int32) (r0 : ((String × Sg) ⊕ (Int32 × Sg))) (hF : f_Q_tick g a1 = some r0) : Met l y_A_tick (qs_wh y_A_tick b_A_tick 4 (some .int) [(0, 9, 12, 13)]) ({ frames := 8, cells := 1, slots := 6, locals := 189 } : Room) (va_Pc ([.ref (h 0), .int a1, .ref o] : List Value) (fun U => U.heap.size = sz ∧ va_P (dC, dI) vwCl (qa_W h c o co (g, fo)) U.heap ∧ va_K (dC, dI) vwCl (qa_T c co) U ∧ va_D (fun _ => True) (qa_W h c o co (g, fo)) ∧ qs_N U ∧ vx_Zq Bundle.tN "UNASSIGNED_STACK" Bundle.steD (va_A (qa_W h c o co (g, fo)) sz) U U.heap ∧ vx_Zq Bundle.tN "SUPPRESSED_SENTINEL" Bundle.listD (va_A (qa_W h c o co (g, fo)) sz) U U.heap ∧ va_Nc "java/lang/IllegalStateException" "java/lang/IllegalArgumentException" U ∧ va_Nc "java/lang/IllegalArgumentException" "java/util/NoSuchElementException" U ∧ vk_R R_Q 165 "not 1 .. 4 ticks" sa165 U)) (va_Qi (fun (r : Int32) (u : Sg × (Nat → Int64)) => r = qa_code (["java/lang/IllegalArgumentException"] : List String) r0 ∧ u = (qa_st r0, qa_out r0 fo)) (fun u t => va_P (dC, dI) vwCl (qa_W h c o co u) t.heap ∧ va_K (dC, dI) vwCl (qa_T c co) t ∧ va_D (va_A (qa_W h c o co (g, fo)) sz) (qa_W h c o co u)) (va_A (qa_W h c o co (g, fo)) sz)) 1 6 (va_A (qa_W h c o co (g, fo)) sz) := by
  refine va_MetW (cc := b_A_tick) (maxL := 4) (ret := (some .int)) (hh := [(0, 9, 12, 13)]) (by decide +kernel) rfl ?_
  intro p e s m args below meth cd s₁ B hml hv
  obtain ⟨rfl, hsz, hP, hK, hD0, hNs, hU, hN, hc1, hc2, hs165⟩ := hv
  have hx := B.exec
  have hb := B.bytes
  have hr := B.returns
  have hts := atoms_spec (ws := (qs_wh y_A_tick b_A_tick 4 (some .int) [(0, 9, 12, 13)])) B.pre
  have hg : ∀ w ∈ qs_gt, w.before _ s = true := fun w h => hts w (List.mem_cons_of_mem _ h)
  have htab : cd.exceptionTable.toList = tableOf [(0, 9, 12, 13)] := vx_table (x := y_A_tick) B (hts _ List.mem_cons_self)
  have hown : s.vm.findClass R_A = some m.cls := findClass_of_methodNamed B.named
  have hlocks := B.notSynchronized
  subst hsz
  have hD := hD0.self (sz := s.heap.size)
  generalize hAe : va_A (qa_W h c o co (g, fo)) s.heap.size = A at hD hU hN ⊢
  have hA : ∀ q : Nat, s.heap.size ≤ q → A q := fun q h => by rw [← hAe]; exact Or.inr h
  have hS : va_S A s.heap s.heap [] := va_S.rf
  have hl := lv_entry ([.ref (h 0), .int a1, .ref o] : List Value) (n := 4) (Nat.le_of_ble_eq_true rfl)
  rw [lg_entry_eq]
  generalize (lg_sl ([.ref (h 0), .int a1, .ref o] : List Value) ++ List.replicate (4 - (lg_sl ([.ref (h 0), .int a1, .ref o] : List Value)).length) Slot.unset).toArray = ls at hl ⊢
  have hl : lv_has ls 4 [(0, .ref (h 0)), (1, .int a1), (2, .ref o)] := hl
  obtain ⟨H, hHe⟩ : ∃ H, H = s.heap := ⟨_, rfl⟩
  obtain ⟨locs, hLe⟩ : ∃ L : List Loc, L = [] := ⟨_, rfl⟩
  rw [← hHe] at hP ⊢
  rw [← hLe]
  have hS : va_S A s.heap H locs := by rw [hHe, hLe]; exact hS
  refine lv_aload_n hx hb d_A_tick_0 rfl (lv_at hl 2 rfl) ?_
  refine lv_iconst (v := 0) hx hb d_A_tick_1 (by decide) ?_
  refine lv_aload_n hx hb d_A_tick_2 rfl (lv_at hl 0 rfl) ?_
  refine lv_iload_n hx hb d_A_tick_3 rfl (lv_at hl 1 rfl) ?_
  have hPc := hP.sub (ws' := qs_W h c g) [0, 1, 2, 3, 4, 5, 6, 7, 8, 9, 10, 11, 12, 13, 14, 15, 16] rfl
  have hDc := hD.sub (ws' := qs_W h c g) [0, 1, 2, 3, 4, 5, 6, 7, 8, 9, 10, 11, 12, 13, 14, 15, 16] (by decide) rfl
  have hKc := hK.sub (tys' := qs_T c) [0, 1, 2, 3, 4, 5, 6, 7, 8, 9] rfl
  have hFc := va_free (wc := qs_W h c g) hD hS hA [0, 1, 2, 3, 4, 5, 6, 7, 8, 9, 10, 11, 12, 13, 14, 15, 16] rfl
  refine vx_calli (vx_runV (own := "QuakeServerLaw") (C := "QuakeServer") (As := [.int a1]) (rest := [.int 0, .ref o]) ⟨hx, hb, hml, hown, hg⟩ (c_Q_tick l hl9 dC dI h c H.size sa165 g a1 r0 hF) (cwV 1 hg (qs_gV t_495 t_496 t_497 t_1 t_498) rfl rfl rfl (by decide +kernel) ⟨Nat.le_of_ble_eq_true rfl, Nat.le_of_ble_eq_true rfl⟩) ⟨fun a U g mk q => by obtain ⟨q0, q1, qP, qK, qD, qN, qU, qS, qs165⟩ := q; exact ⟨q0, q1, qP, va_K.moved (u := U) (U := U.calling g mk a) (Vm.Alike.refl U.vm) qK, qD, qs_N.same (s := U) (U := U.calling g mk a) rfl qN, vx_Zq.moved (u := U) (U := U.calling g mk a) (Vm.Alike.refl U.vm) qU, vx_Zq.moved (u := U) (U := U.calling g mk a) (Vm.Alike.refl U.vm) qS, vk_R.same (u := U) (U := U.calling g mk a) rfl qs165⟩, va_recv hKc hPc (ci := 6) (q0 := 0) rfl rfl, fun U9 hU9 hW9 => ⟨rfl, by rw [hU9], by rw [hU9]; exact hPc, va_K.moved hW9.alike hKc, hDc.weaken (fun _ _ _ _ => trivial), hNs.warm hW9, by rw [hU9]; exact vx_Zq.moved hW9.alike ((hU.kept hS.2.1).narrow hFc), by rw [hU9]; exact vx_Zq.moved hW9.alike ((hN.kept hS.2.1).narrow hFc), vk_R.warm hW9 hs165⟩⟩ rfl rfl hl.1 rfl (lv_room (Nat.le_of_ble_eq_true rfl)) d_A_tick_4 ⟨Nat.le_of_ble_eq_true rfl, Nat.le_of_ble_eq_true rfl⟩) hS (fun q _ h => hFc q h) hFc (fun q _ h => hFc q h) (fun E ce q9 u t H1 locs ht hvm _ hB hz hk hS hce hcv hcl => ?_) (fun r u t H1 locs ht hvm hw hB hz hk hS => ?_)
  · obtain ⟨⟨hw, hE⟩, hP1, hK1, hD1⟩ := hB
    rw [ht] at hP1
    obtain ⟨hP, hD⟩ := va_join (wr := [(o, .inl (co, 1, .inr (.inl fo)))]) (w1 := qs_W h c u) hP hD [0, 1, 2, 3, 4, 5, 6, 7, 8, 9, 10, 11, 12, 13, 14, 15, 16] [17] rfl rfl (by decide) (by decide) hk hFc hP1 hD1
    have hP := hP.sub (ws' := qa_W h c o co (u, fo)) [1, 2, 3, 4, 5, 6, 7, 8, 9, 10, 11, 12, 13, 14, 15, 16, 17, 0] rfl
    have hD := hD.sub (ws' := qa_W h c o co (u, fo)) [1, 2, 3, 4, 5, 6, 7, 8, 9, 10, 11, 12, 13, 14, 15, 16, 17, 0] (by decide) rfl
    refine vx_widen (k := 1) (n := 6) (Nat.le_of_ble_eq_true rfl) (Nat.le_of_ble_eq_true rfl) ?_
    simp only [List.mem_cons, List.not_mem_nil, or_false] at hE
    subst hE
    refine vx_catch (own := "QuakeServerLaw") (name := "java/lang/IllegalArgumentException") hown [] ⟨0, 9, 12, 13⟩ [] htab (fun z hz => by cases hz) (by decide) (by decide) (hg _ t_206) (va_Nw.use rfl (hNs.2.2.1 ("java/lang/IllegalArgumentException", "java/lang/IllegalArgumentException") (List.mem_of_getElem? (i := 0) rfl))) hce hcv hcl ?_
    refine lv_astore_n (lv' := [(3, .ref q9), (0, .ref (h 0)), (1, .int a1), (2, .ref o)]) hx hb d_A_tick_12 rfl hl (by decide) rfl (fun ls hl => ?_)
    refine lv_iconst (v := 1) hx hb d_A_tick_13 (by decide) ?_
    exact W.iret (v := 1) hx hb hr (fun t ht hW => ⟨⟨1, (u, fo), rfl, ⟨by rw [hw]; rfl, by rw [hw]; rfl⟩, by rw [ht]; exact hP, va_K.moved hW.alike hK, hD⟩, hS.F ht⟩) hS.2.2 d_A_tick_14
  · obtain ⟨hP1, hK1, hD1⟩ := hB
    rw [ht] at hP1
    obtain ⟨hP, hD⟩ := va_join (wr := [(o, .inl (co, 1, .inr (.inl fo)))]) (w1 := qs_W h c u) hP hD [0, 1, 2, 3, 4, 5, 6, 7, 8, 9, 10, 11, 12, 13, 14, 15, 16] [17] rfl rfl (by decide) (by decide) hk hFc hP1 hD1
    have hP := hP.sub (ws' := qa_W h c o co (u, fo)) [1, 2, 3, 4, 5, 6, 7, 8, 9, 10, 11, 12, 13, 14, 15, 16, 17, 0] rfl
    have hD := hD.sub (ws' := qa_W h c o co (u, fo)) [1, 2, 3, 4, 5, 6, 7, 8, 9, 10, 11, 12, 13, 14, 15, 16, 17, 0] (by decide) rfl
    refine W.widen (k := 1) (n := 6) (Nat.le_of_ble_eq_true rfl) (Nat.le_of_ble_eq_true rfl) ?_
    refine lv_i2l (v := r.toInt64) hx hb d_A_tick_7 rfl ?_
    refine va_last hx hb hK hP hD hS 17 10 rfl rfl qa_in0 d_A_tick_8 (fun H locs hP hD hS => ?_)
    have hP : va_P (dC, dI) vwCl (qa_W h c o co (u, vp_updL fo 0 r.toInt64)) H := hP
    have hD : va_D A (qa_W h c o co (u, vp_updL fo 0 r.toInt64)) := hD
    refine lv_goto (tgt := 15) hx hb d_A_tick_9 (by decide) ?_
    refine lv_iconst (v := 0) hx hb d_A_tick_15 (by decide) ?_
    exact W.iret (v := 0) hx hb hr (fun t ht hW => ⟨⟨0, (u, vp_updL fo 0 r.toInt64), rfl, ⟨by rw [hw]; rfl, by rw [hw]; rfl⟩, by rw [ht]; exact hP, va_K.moved hW.alike hK, hD⟩, hS.F ht⟩) hS.2.2 d_A_tick_16

theorem d_A_change_0 : decode b_A_change 0 = .ok (.aload_n 2, 1) := by decide +kernel
theorem d_A_change_1 : decode b_A_change 1 = .ok (.iconst 0, 1) := by decide +kernel
theorem d_A_change_2 : decode b_A_change 2 = .ok (.aload_n 0, 1) := by decide +kernel
theorem d_A_change_3 : decode b_A_change 3 = .ok (.iload_n 1, 1) := by decide +kernel
theorem d_A_change_4 : decode b_A_change 4 = .ok (.invokevirtual 53, 3) := by decide +kernel
theorem d_A_change_7 : decode b_A_change 7 = .ok (.i2l, 1) := by decide +kernel
theorem d_A_change_8 : decode b_A_change 8 = .ok (.lastore, 1) := by decide +kernel
theorem d_A_change_9 : decode b_A_change 9 = .ok (.goto 6, 3) := by decide +kernel
theorem d_A_change_12 : decode b_A_change 12 = .ok (.astore_n 3, 1) := by decide +kernel
theorem d_A_change_13 : decode b_A_change 13 = .ok (.iconst 1, 1) := by decide +kernel
theorem d_A_change_14 : decode b_A_change 14 = .ok (.ireturn, 1) := by decide +kernel
theorem d_A_change_15 : decode b_A_change 15 = .ok (.iconst 0, 1) := by decide +kernel
theorem d_A_change_16 : decode b_A_change 16 = .ok (.ireturn, 1) := by decide +kernel
set_option maxHeartbeats 4000000 in
set_option maxRecDepth 100000 in
theorem c_A_change (l : Launch) (hl9 : l.stackTraces = false) (dC : Nat → ClassId) (dI : Nat → Nat → Nat) (h : Nat → Nat) (c : Nat → ClassId) (sz o : Nat) (co : ClassId) (sa181 : Nat) (g : Sg) (fo : Nat → Int64) (a1 : Int32) (r0 : ((String × Sg) ⊕ (Int32 × Sg))) (hF : f_Q_change g a1 = some r0) : Met l y_A_change (qs_wh y_A_change b_A_change 4 (some .int) [(0, 9, 12, 29)]) ({ frames := 7, cells := 1, slots := 6, locals := 104 } : Room) (va_Pc ([.ref (h 0), .int a1, .ref o] : List Value) (fun U => U.heap.size = sz ∧ va_P (dC, dI) vwCl (qa_W h c o co (g, fo)) U.heap ∧ va_K (dC, dI) vwCl (qa_T c co) U ∧ va_D (fun _ => True) (qa_W h c o co (g, fo)) ∧ qs_N U ∧ vx_Zq Bundle.tN "UNASSIGNED_STACK" Bundle.steD (va_A (qa_W h c o co (g, fo)) sz) U U.heap ∧ vx_Zq Bundle.tN "SUPPRESSED_SENTINEL" Bundle.listD (va_A (qa_W h c o co (g, fo)) sz) U U.heap ∧ va_Nc "java/lang/IllegalStateException" "java/lang/IllegalArgumentException" U ∧ va_Nc "java/lang/IllegalArgumentException" "java/util/NoSuchElementException" U ∧ vk_R R_Q 181 "there is no such change" sa181 U)) (va_Qi (fun (r : Int32) (u : Sg × (Nat → Int64)) => r = qa_code (["java/util/NoSuchElementException"] : List String) r0 ∧ u = (qa_st r0, qa_out r0 fo)) (fun u t => va_P (dC, dI) vwCl (qa_W h c o co u) t.heap ∧ va_K (dC, dI) vwCl (qa_T c co) t ∧ va_D (va_A (qa_W h c o co (g, fo)) sz) (qa_W h c o co u)) (va_A (qa_W h c o co (g, fo)) sz)) 1 6 (va_A (qa_W h c o co (g, fo)) sz) := by
  refine va_MetW (cc := b_A_change) (maxL := 4) (ret := (some .int)) (hh := [(0, 9, 12, 29)]) (by decide +kernel) rfl ?_
  intro p e s m args below meth cd s₁ B hml hv
  obtain ⟨rfl, hsz, hP, hK, hD0, hNs, hU, hN, hc1, hc2, hs181⟩ := hv
  have hx := B.exec
  have hb := B.bytes
  have hr := B.returns
  have hts := atoms_spec (ws := (qs_wh y_A_change b_A_change 4 (some .int) [(0, 9, 12, 29)])) B.pre
  have hg : ∀ w ∈ qs_gt, w.before _ s = true := fun w h => hts w (List.mem_cons_of_mem _ h)
  have htab : cd.exceptionTable.toList = tableOf [(0, 9, 12, 29)] := vx_table (x := y_A_change) B (hts _ List.mem_cons_self)
  have hown : s.vm.findClass R_A = some m.cls := findClass_of_methodNamed B.named
  have hlocks := B.notSynchronized
  subst hsz
  have hD := hD0.self (sz := s.heap.size)
  generalize hAe : va_A (qa_W h c o co (g, fo)) s.heap.size = A at hD hU hN ⊢
  have hA : ∀ q : Nat, s.heap.size ≤ q → A q := fun q h => by rw [← hAe]; exact Or.inr h
  have hS : va_S A s.heap s.heap [] := va_S.rf
  have hl := lv_entry ([.ref (h 0), .int a1, .ref o] : List Value) (n := 4) (Nat.le_of_ble_eq_true rfl)
  rw [lg_entry_eq]
  generalize (lg_sl ([.ref (h 0), .int a1, .ref o] : List Value) ++ List.replicate (4 - (lg_sl ([.ref (h 0), .int a1, .ref o] : List Value)).length) Slot.unset).toArray = ls at hl ⊢
  have hl : lv_has ls 4 [(0, .ref (h 0)), (1, .int a1), (2, .ref o)] := hl
  obtain ⟨H, hHe⟩ : ∃ H, H = s.heap := ⟨_, rfl⟩
  obtain ⟨locs, hLe⟩ : ∃ L : List Loc, L = [] := ⟨_, rfl⟩
  rw [← hHe] at hP ⊢
  rw [← hLe]
  have hS : va_S A s.heap H locs := by rw [hHe, hLe]; exact hS
  refine lv_aload_n hx hb d_A_change_0 rfl (lv_at hl 2 rfl) ?_
  refine lv_iconst (v := 0) hx hb d_A_change_1 (by decide) ?_
  refine lv_aload_n hx hb d_A_change_2 rfl (lv_at hl 0 rfl) ?_
  refine lv_iload_n hx hb d_A_change_3 rfl (lv_at hl 1 rfl) ?_
  have hPc := hP.sub (ws' := qs_W h c g) [0, 1, 2, 3, 4, 5, 6, 7, 8, 9, 10, 11, 12, 13, 14, 15, 16] rfl
  have hDc := hD.sub (ws' := qs_W h c g) [0, 1, 2, 3, 4, 5, 6, 7, 8, 9, 10, 11, 12, 13, 14, 15, 16] (by decide) rfl
  have hKc := hK.sub (tys' := qs_T c) [0, 1, 2, 3, 4, 5, 6, 7, 8, 9] rfl
  have hFc := va_free (wc := qs_W h c g) hD hS hA [0, 1, 2, 3, 4, 5, 6, 7, 8, 9, 10, 11, 12, 13, 14, 15, 16] rfl
  refine vx_calli (vx_runV (own := "QuakeServerLaw") (C := "QuakeServer") (As := [.int a1]) (rest := [.int 0, .ref o]) ⟨hx, hb, hml, hown, hg⟩ (c_Q_change l hl9 dC dI h c H.size sa181 g a1 r0 hF) (cwV 1 hg (qs_gV t_595 t_596 t_597 t_1 t_598) rfl rfl rfl (by decide +kernel) ⟨Nat.le_of_ble_eq_true rfl, Nat.le_of_ble_eq_true rfl⟩) ⟨fun a U g mk q => by obtain ⟨q0, q1, qP, qK, qD, qN, qU, qS, qs181⟩ := q; exact ⟨q0, q1, qP, va_K.moved (u := U) (U := U.calling g mk a) (Vm.Alike.refl U.vm) qK, qD, qs_N.same (s := U) (U := U.calling g mk a) rfl qN, vx_Zq.moved (u := U) (U := U.calling g mk a) (Vm.Alike.refl U.vm) qU, vx_Zq.moved (u := U) (U := U.calling g mk a) (Vm.Alike.refl U.vm) qS, vk_R.same (u := U) (U := U.calling g mk a) rfl qs181⟩, va_recv hKc hPc (ci := 6) (q0 := 0) rfl rfl, fun U9 hU9 hW9 => ⟨rfl, by rw [hU9], by rw [hU9]; exact hPc, va_K.moved hW9.alike hKc, hDc.weaken (fun _ _ _ _ => trivial), hNs.warm hW9, by rw [hU9]; exact vx_Zq.moved hW9.alike ((hU.kept hS.2.1).narrow hFc), by rw [hU9]; exact vx_Zq.moved hW9.alike ((hN.kept hS.2.1).narrow hFc), vk_R.warm hW9 hs181⟩⟩ rfl rfl hl.1 rfl (lv_room (Nat.le_of_ble_eq_true rfl)) d_A_change_4 ⟨Nat.le_of_ble_eq_true rfl, Nat.le_of_ble_eq_true rfl⟩) hS (fun q _ h => hFc q h) hFc (fun q _ h => hFc q h) (fun E ce q9 u t H1 locs ht hvm _ hB hz hk hS hce hcv hcl => ?_) (fun r u t H1 locs ht hvm hw hB hz hk hS => ?_)
  · obtain ⟨⟨hw, hE⟩, hP1, hK1, hD1⟩ := hB
    rw [ht] at hP1
    obtain ⟨hP, hD⟩ := va_join (wr := [(o, .inl (co, 1, .inr (.inl fo)))]) (w1 := qs_W h c u) hP hD [0, 1, 2, 3, 4, 5, 6, 7, 8, 9, 10, 11, 12, 13, 14, 15, 16] [17] rfl rfl (by decide) (by decide) hk hFc hP1 hD1
    have hP := hP.sub (ws' := qa_W h c o co (u, fo)) [1, 2, 3, 4, 5, 6, 7, 8, 9, 10, 11, 12, 13, 14, 15, 16, 17, 0] rfl
    have hD := hD.sub (ws' := qa_W h c o co (u, fo)) [1, 2, 3, 4, 5, 6, 7, 8, 9, 10, 11, 12, 13, 14, 15, 16, 17, 0] (by decide) rfl
    refine vx_widen (k := 1) (n := 6) (Nat.le_of_ble_eq_true rfl) (Nat.le_of_ble_eq_true rfl) ?_
    simp only [List.mem_cons, List.not_mem_nil, or_false] at hE
    subst hE
    refine vx_catch (own := "QuakeServerLaw") (name := "java/util/NoSuchElementException") hown [] ⟨0, 9, 12, 29⟩ [] htab (fun z hz => by cases hz) (by decide) (by decide) (hg _ t_362) (va_Nw.use rfl (hNs.2.2.1 ("java/util/NoSuchElementException", "java/util/NoSuchElementException") (List.mem_of_getElem? (i := 2) rfl))) hce hcv hcl ?_
    refine lv_astore_n (lv' := [(3, .ref q9), (0, .ref (h 0)), (1, .int a1), (2, .ref o)]) hx hb d_A_change_12 rfl hl (by decide) rfl (fun ls hl => ?_)
    refine lv_iconst (v := 1) hx hb d_A_change_13 (by decide) ?_
    exact W.iret (v := 1) hx hb hr (fun t ht hW => ⟨⟨1, (u, fo), rfl, ⟨by rw [hw]; rfl, by rw [hw]; rfl⟩, by rw [ht]; exact hP, va_K.moved hW.alike hK, hD⟩, hS.F ht⟩) hS.2.2 d_A_change_14
  · obtain ⟨hP1, hK1, hD1⟩ := hB
    rw [ht] at hP1
    obtain ⟨hP, hD⟩ := va_join (wr := [(o, .inl (co, 1, .inr (.inl fo)))]) (w1 := qs_W h c u) hP hD [0, 1, 2, 3, 4, 5, 6, 7, 8, 9, 10, 11, 12, 13, 14, 15, 16] [17] rfl rfl (by decide) (by decide) hk hFc hP1 hD1
    have hP := hP.sub (ws' := qa_W h c o co (u, fo)) [1, 2, 3, 4, 5, 6, 7, 8, 9, 10, 11, 12, 13, 14, 15, 16, 17, 0] rfl
    have hD := hD.sub (ws' := qa_W h c o co (u, fo)) [1, 2, 3, 4, 5, 6, 7, 8, 9, 10, 11, 12, 13, 14, 15, 16, 17, 0] (by decide) rfl
    refine W.widen (k := 1) (n := 6) (Nat.le_of_ble_eq_true rfl) (Nat.le_of_ble_eq_true rfl) ?_
    refine lv_i2l (v := r.toInt64) hx hb d_A_change_7 rfl ?_
    refine va_last hx hb hK hP hD hS 17 10 rfl rfl qa_in0 d_A_change_8 (fun H locs hP hD hS => ?_)
    have hP : va_P (dC, dI) vwCl (qa_W h c o co (u, vp_updL fo 0 r.toInt64)) H := hP
    have hD : va_D A (qa_W h c o co (u, vp_updL fo 0 r.toInt64)) := hD
    refine lv_goto (tgt := 15) hx hb d_A_change_9 (by decide) ?_
    refine lv_iconst (v := 0) hx hb d_A_change_15 (by decide) ?_
    exact W.iret (v := 0) hx hb hr (fun t ht hW => ⟨⟨0, (u, vp_updL fo 0 r.toInt64), rfl, ⟨by rw [hw]; rfl, by rw [hw]; rfl⟩, by rw [ht]; exact hP, va_K.moved hW.alike hK, hD⟩, hS.F ht⟩) hS.2.2 d_A_change_16

theorem d_A_count_0 : decode b_A_count 0 = .ok (.aload_n 2, 1) := by decide +kernel
theorem d_A_count_1 : decode b_A_count 1 = .ok (.iconst 0, 1) := by decide +kernel
theorem d_A_count_2 : decode b_A_count 2 = .ok (.aload_n 0, 1) := by decide +kernel
theorem d_A_count_3 : decode b_A_count 3 = .ok (.iload_n 1, 1) := by decide +kernel
theorem d_A_count_4 : decode b_A_count 4 = .ok (.invokevirtual 56, 3) := by decide +kernel
theorem d_A_count_7 : decode b_A_count 7 = .ok (.i2l, 1) := by decide +kernel
theorem d_A_count_8 : decode b_A_count 8 = .ok (.lastore, 1) := by decide +kernel
theorem d_A_count_9 : decode b_A_count 9 = .ok (.goto 6, 3) := by decide +kernel
theorem d_A_count_12 : decode b_A_count 12 = .ok (.astore_n 3, 1) := by decide +kernel
theorem d_A_count_13 : decode b_A_count 13 = .ok (.iconst 1, 1) := by decide +kernel
theorem d_A_count_14 : decode b_A_count 14 = .ok (.ireturn, 1) := by decide +kernel
theorem d_A_count_15 : decode b_A_count 15 = .ok (.iconst 0, 1) := by decide +kernel
theorem d_A_count_16 : decode b_A_count 16 = .ok (.ireturn, 1) := by decide +kernel
set_option maxHeartbeats 4000000 in
set_option maxRecDepth 100000 in
theorem c_A_count (l : Launch) (hl9 : l.stackTraces = false) (dC : Nat → ClassId) (dI : Nat → Nat → Nat) (h : Nat → Nat) (c : Nat → ClassId) (sz o : Nat) (co : ClassId) (sa201 : Nat) (g : Sg) (fo : Nat → Int64) (a1 : Int32) (r0 : ((String × Sg) ⊕ (Int32 × Sg))) (hF : f_Q_count g a1 = some r0) : Met l y_A_count (qs_wh y_A_count b_A_count 4 (some .int) [(0, 9, 12, 13)]) ({ frames := 7, cells := 1, slots := 6, locals := 103 } : Room) (va_Pc ([.ref (h 0), .int a1, .ref o] : List Value) (fun U => U.heap.size = sz ∧ va_P (dC, dI) vwCl (qa_W h c o co (g, fo)) U.heap ∧ va_K (dC, dI) vwCl (qa_T c co) U ∧ va_D (fun _ => True) (qa_W h c o co (g, fo)) ∧ qs_N U ∧ vx_Zq Bundle.tN "UNASSIGNED_STACK" Bundle.steD (va_A (qa_W h c o co (g, fo)) sz) U U.heap ∧ vx_Zq Bundle.tN "SUPPRESSED_SENTINEL" Bundle.listD (va_A (qa_W h c o co (g, fo)) sz) U U.heap ∧ va_Nc "java/lang/IllegalStateException" "java/lang/IllegalArgumentException" U ∧ va_Nc "java/lang/IllegalArgumentException" "java/util/NoSuchElementException" U ∧ vk_R R_Q 201 "nothing of that number is counted" sa201 U)) (va_Qi (fun (r : Int32) (u : Sg × (Nat → Int64)) => r = qa_code (["java/lang/IllegalArgumentException"] : List String) r0 ∧ u = (qa_st r0, qa_out r0 fo)) (fun u t => va_P (dC, dI) vwCl (qa_W h c o co u) t.heap ∧ va_K (dC, dI) vwCl (qa_T c co) t ∧ va_D (va_A (qa_W h c o co (g, fo)) sz) (qa_W h c o co u)) (va_A (qa_W h c o co (g, fo)) sz)) 1 6 (va_A (qa_W h c o co (g, fo)) sz) := by
  refine va_MetW (cc := b_A_count) (maxL := 4) (ret := (some .int)) (hh := [(0, 9, 12, 13)]) (by decide +kernel) rfl ?_
  intro p e s m args below meth cd s₁ B hml hv
  obtain ⟨rfl, hsz, hP, hK, hD0, hNs, hU, hN, hc1, hc2, hs201⟩ := hv
  have hx := B.exec
  have hb := B.bytes
  have hr := B.returns
  have hts := atoms_spec (ws := (qs_wh y_A_count b_A_count 4 (some .int) [(0, 9, 12, 13)])) B.pre
  have hg : ∀ w ∈ qs_gt, w.before _ s = true := fun w h => hts w (List.mem_cons_of_mem _ h)
  have htab : cd.exceptionTable.toList = tableOf [(0, 9, 12, 13)] := vx_table (x := y_A_count) B (hts _ List.mem_cons_self)
  have hown : s.vm.findClass R_A = some m.cls := findClass_of_methodNamed B.named
  have hlocks := B.notSynchronized
  subst hsz
  have hD := hD0.self (sz := s.heap.size)
  generalize hAe : va_A (qa_W h c o co (g, fo)) s.heap.size = A at hD hU hN ⊢
  have hA : ∀ q : Nat, s.heap.size ≤ q → A q := fun q h => by rw [← hAe]; exact Or.inr h
  have hS : va_S A s.heap s.heap [] := va_S.rf
  have hl := lv_entry ([.ref (h 0), .int a1, .ref o] : List Value) (n := 4) (Nat.le_of_ble_eq_true rfl)
  rw [lg_entry_eq]
  generalize (lg_sl ([.ref (h 0), .int a1, .ref o] : List Value) ++ List.replicate (4 - (lg_sl ([.ref (h 0), .int a1, .ref o] : List Value)).length) Slot.unset).toArray = ls at hl ⊢
  have hl : lv_has ls 4 [(0, .ref (h 0)), (1, .int a1), (2, .ref o)] := hl
  obtain ⟨H, hHe⟩ : ∃ H, H = s.heap := ⟨_, rfl⟩
  obtain ⟨locs, hLe⟩ : ∃ L : List Loc, L = [] := ⟨_, rfl⟩
  rw [← hHe] at hP ⊢
  rw [← hLe]
  have hS : va_S A s.heap H locs := by rw [hHe, hLe]; exact hS
  refine lv_aload_n hx hb d_A_count_0 rfl (lv_at hl 2 rfl) ?_
  refine lv_iconst (v := 0) hx hb d_A_count_1 (by decide) ?_
  refine lv_aload_n hx hb d_A_count_2 rfl (lv_at hl 0 rfl) ?_
  refine lv_iload_n hx hb d_A_count_3 rfl (lv_at hl 1 rfl) ?_
  have hPc := hP.sub (ws' := qs_W h c g) [0, 1, 2, 3, 4, 5, 6, 7, 8, 9, 10, 11, 12, 13, 14, 15, 16] rfl
  have hDc := hD.sub (ws' := qs_W h c g) [0, 1, 2, 3, 4, 5, 6, 7, 8, 9, 10, 11, 12, 13, 14, 15, 16] (by decide) rfl
  have hKc := hK.sub (tys' := qs_T c) [0, 1, 2, 3, 4, 5, 6, 7, 8, 9] rfl
  have hFc := va_free (wc := qs_W h c g) hD hS hA [0, 1, 2, 3, 4, 5, 6, 7, 8, 9, 10, 11, 12, 13, 14, 15, 16] rfl
  refine vx_calli (vx_runV (own := "QuakeServerLaw") (C := "QuakeServer") (As := [.int a1]) (rest := [.int 0, .ref o]) ⟨hx, hb, hml, hown, hg⟩ (c_Q_count l hl9 dC dI h c H.size sa201 g a1 r0 hF) (cwV 1 hg (qs_gV t_607 t_608 t_609 t_1 t_610) rfl rfl rfl (by decide +kernel) ⟨Nat.le_of_ble_eq_true rfl, Nat.le_of_ble_eq_true rfl⟩) ⟨fun a U g mk q => by obtain ⟨q0, q1, qP, qK, qD, qN, qU, qS, qs201⟩ := q; exact ⟨q0, q1, qP, va_K.moved (u := U) (U := U.calling g mk a) (Vm.Alike.refl U.vm) qK, qD, qs_N.same (s := U) (U := U.calling g mk a) rfl qN, vx_Zq.moved (u := U) (U := U.calling g mk a) (Vm.Alike.refl U.vm) qU, vx_Zq.moved (u := U) (U := U.calling g mk a) (Vm.Alike.refl U.vm) qS, vk_R.same (u := U) (U := U.calling g mk a) rfl qs201⟩, va_recv hKc hPc (ci := 6) (q0 := 0) rfl rfl, fun U9 hU9 hW9 => ⟨rfl, by rw [hU9], by rw [hU9]; exact hPc, va_K.moved hW9.alike hKc, hDc.weaken (fun _ _ _ _ => trivial), hNs.warm hW9, by rw [hU9]; exact vx_Zq.moved hW9.alike ((hU.kept hS.2.1).narrow hFc), by rw [hU9]; exact vx_Zq.moved hW9.alike ((hN.kept hS.2.1).narrow hFc), vk_R.warm hW9 hs201⟩⟩ rfl rfl hl.1 rfl (lv_room (Nat.le_of_ble_eq_true rfl)) d_A_count_4 ⟨Nat.le_of_ble_eq_true rfl, Nat.le_of_ble_eq_true rfl⟩) hS (fun q _ h => hFc q h) hFc (fun q _ h => hFc q h) (fun E ce q9 u t H1 locs ht hvm _ hB hz hk hS hce hcv hcl => ?_) (fun r u t H1 locs ht hvm hw hB hz hk hS => ?_)
  · obtain ⟨⟨hw, hE⟩, hP1, hK1, hD1⟩ := hB
    rw [ht] at hP1
    obtain ⟨hP, hD⟩ := va_join (wr := [(o, .inl (co, 1, .inr (.inl fo)))]) (w1 := qs_W h c u) hP hD [0, 1, 2, 3, 4, 5, 6, 7, 8, 9, 10, 11, 12, 13, 14, 15, 16] [17] rfl rfl (by decide) (by decide) hk hFc hP1 hD1
    have hP := hP.sub (ws' := qa_W h c o co (u, fo)) [1, 2, 3, 4, 5, 6, 7, 8, 9, 10, 11, 12, 13, 14, 15, 16, 17, 0] rfl
    have hD := hD.sub (ws' := qa_W h c o co (u, fo)) [1, 2, 3, 4, 5, 6, 7, 8, 9, 10, 11, 12, 13, 14, 15, 16, 17, 0] (by decide) rfl
    refine vx_widen (k := 1) (n := 6) (Nat.le_of_ble_eq_true rfl) (Nat.le_of_ble_eq_true rfl) ?_
    simp only [List.mem_cons, List.not_mem_nil, or_false] at hE
    subst hE
    refine vx_catch (own := "QuakeServerLaw") (name := "java/lang/IllegalArgumentException") hown [] ⟨0, 9, 12, 13⟩ [] htab (fun z hz => by cases hz) (by decide) (by decide) (hg _ t_206) (va_Nw.use rfl (hNs.2.2.1 ("java/lang/IllegalArgumentException", "java/lang/IllegalArgumentException") (List.mem_of_getElem? (i := 0) rfl))) hce hcv hcl ?_
    refine lv_astore_n (lv' := [(3, .ref q9), (0, .ref (h 0)), (1, .int a1), (2, .ref o)]) hx hb d_A_count_12 rfl hl (by decide) rfl (fun ls hl => ?_)
    refine lv_iconst (v := 1) hx hb d_A_count_13 (by decide) ?_
    exact W.iret (v := 1) hx hb hr (fun t ht hW => ⟨⟨1, (u, fo), rfl, ⟨by rw [hw]; rfl, by rw [hw]; rfl⟩, by rw [ht]; exact hP, va_K.moved hW.alike hK, hD⟩, hS.F ht⟩) hS.2.2 d_A_count_14
  · obtain ⟨hP1, hK1, hD1⟩ := hB
    rw [ht] at hP1
    obtain ⟨hP, hD⟩ := va_join (wr := [(o, .inl (co, 1, .inr (.inl fo)))]) (w1 := qs_W h c u) hP hD [0, 1, 2, 3, 4, 5, 6, 7, 8, 9, 10, 11, 12, 13, 14, 15, 16] [17] rfl rfl (by decide) (by decide) hk hFc hP1 hD1
    have hP := hP.sub (ws' := qa_W h c o co (u, fo)) [1, 2, 3, 4, 5, 6, 7, 8, 9, 10, 11, 12, 13, 14, 15, 16, 17, 0] rfl
    have hD := hD.sub (ws' := qa_W h c o co (u, fo)) [1, 2, 3, 4, 5, 6, 7, 8, 9, 10, 11, 12, 13, 14, 15, 16, 17, 0] (by decide) rfl
    refine W.widen (k := 1) (n := 6) (Nat.le_of_ble_eq_true rfl) (Nat.le_of_ble_eq_true rfl) ?_
    refine lv_i2l (v := r.toInt64) hx hb d_A_count_7 rfl ?_
    refine va_last hx hb hK hP hD hS 17 10 rfl rfl qa_in0 d_A_count_8 (fun H locs hP hD hS => ?_)
    have hP : va_P (dC, dI) vwCl (qa_W h c o co (u, vp_updL fo 0 r.toInt64)) H := hP
    have hD : va_D A (qa_W h c o co (u, vp_updL fo 0 r.toInt64)) := hD
    refine lv_goto (tgt := 15) hx hb d_A_count_9 (by decide) ?_
    refine lv_iconst (v := 0) hx hb d_A_count_15 (by decide) ?_
    exact W.iret (v := 0) hx hb hr (fun t ht hW => ⟨⟨0, (u, vp_updL fo 0 r.toInt64), rfl, ⟨by rw [hw]; rfl, by rw [hw]; rfl⟩, by rw [ht]; exact hP, va_K.moved hW.alike hK, hD⟩, hS.F ht⟩) hS.2.2 d_A_count_16
