theorem d_Q_isBelow_0 : decode b_Q_isBelow 0 = .ok (.iload_n 0, 1) := by decide +kernel
theorem d_Q_isBelow_1 : decode b_Q_isBelow 1 = .ok (.ifCond .lt 12, 3) := by decide +kernel
theorem d_Q_isBelow_4 : decode b_Q_isBelow 4 = .ok (.iload_n 0, 1) := by decide +kernel
theorem d_Q_isBelow_5 : decode b_Q_isBelow 5 = .ok (.iload_n 1, 1) := by decide +kernel
theorem d_Q_isBelow_6 : decode b_Q_isBelow 6 = .ok (.if_icmp .ge 7, 3) := by decide +kernel
theorem d_Q_isBelow_9 : decode b_Q_isBelow 9 = .ok (.iconst 1, 1) := by decide +kernel
theorem d_Q_isBelow_10 : decode b_Q_isBelow 10 = .ok (.goto 4, 3) := by decide +kernel
theorem d_Q_isBelow_13 : decode b_Q_isBelow 13 = .ok (.iconst 0, 1) := by decide +kernel
theorem d_Q_isBelow_14 : decode b_Q_isBelow 14 = .ok (.ireturn, 1) := by decide +kernel
def f_Q_isBelow (a1 : Int32) (a2 : Int32) : Option Int32 := (if a1 < 0 then (some (0)) else (if a2 ≤ a1 then (some (0)) else (some (1))))
set_option maxHeartbeats 4000000 in
set_option maxRecDepth 100000 in
theorem c_Q_isBelow (l : Launch) (sz : Nat) (a1 : Int32) (a2 : Int32) (r0 : Int32) (hF : f_Q_isBelow a1 a2 = some r0) : Met l y_Q_isBelow (qs_ws y_Q_isBelow b_Q_isBelow 2 (some .boolean)) ({ frames := 0, cells := 0, slots := 0, locals := 0 } : Room) (va_Pc ([.int a1, .int a2] : List Value) (fun U => U.heap.size = sz ∧ qs_N U)) (va_Qi (fun (r : Int32) (_ : Unit) => r = r0) (fun _ _ => True) (va_A [] sz)) 0 0 (va_A [] sz) := by
  refine Met.ofW (cc := b_Q_isBelow) (maxL := 2) (ret := (some .boolean)) (by decide +kernel) rfl ?_
  intro p e s m args below meth cd s₁ B hml hv
  obtain ⟨rfl, hsz, hNs⟩ := hv
  have hx := B.exec
  have hb := B.bytes
  have hr := B.returns
  have hts := atoms_spec (ws := (qs_ws y_Q_isBelow b_Q_isBelow 2 (some .boolean))) B.pre
  have hg : ∀ w ∈ qs_gt, w.before _ s = true := fun w h => hts w (List.mem_cons_of_mem _ h)
  have hown : s.vm.findClass R_Q = some m.cls := findClass_of_methodNamed B.named
  have hlocks := B.notSynchronized
  subst hsz
  have hD : va_D (va_A [] s.heap.size) [] := qs_D0
  have hP : va_P qs_G0 [] [] s.heap := qs_P0
  generalize hAe : va_A ([]) s.heap.size = A at hD ⊢
  have hA : ∀ q : Nat, s.heap.size ≤ q → A q := fun q h => by rw [← hAe]; exact Or.inr h
  have hS : va_S A s.heap s.heap [] := va_S.rf
  have hl := lv_entry ([.int a1, .int a2] : List Value) (n := 2) (Nat.le_of_ble_eq_true rfl)
  rw [lg_entry_eq]
  generalize (lg_sl ([.int a1, .int a2] : List Value) ++ List.replicate (2 - (lg_sl ([.int a1, .int a2] : List Value)).length) Slot.unset).toArray = ls at hl ⊢
  have hl : lv_has ls 2 [(0, .int (a1)), (1, .int (a2))] := hl
  unfold f_Q_isBelow at hF
  obtain ⟨H, hHe⟩ : ∃ H, H = s.heap := ⟨_, rfl⟩
  obtain ⟨locs, hLe⟩ : ∃ L : List Loc, L = [] := ⟨_, rfl⟩
  rw [← hHe] at hP ⊢
  rw [← hLe]
  have hS : va_S A s.heap H locs := by rw [hHe, hLe]; exact hS
  refine lv_iload_n hx hb d_Q_isBelow_0 rfl (lv_at hl 0 rfl) ?_
  refine lv_if_lt (tgt := 13) hx hb d_Q_isBelow_1 (by decide) (fun c1 => ?_) (fun c1 => ?_)
  · have hF := qs_pos c1 hF
    refine lv_iconst (v := 0) hx hb d_Q_isBelow_13 (by decide) ?_
    have h9 := Option.some.inj hF
    exact W.zret (ty := .boolean) (v := 0) hx hb hr rfl (fun t ht hW => ⟨⟨0, (), rfl, h9, trivial⟩, hS.F ht⟩) hS.2.2 d_Q_isBelow_14
  · have hF := qs_neg c1 hF
    refine lv_iload_n hx hb d_Q_isBelow_4 rfl (lv_at hl 0 rfl) ?_
    refine lv_iload_n hx hb d_Q_isBelow_5 rfl (lv_at hl 1 rfl) ?_
    refine lv_icmp_ge (tgt := 13) hx hb d_Q_isBelow_6 (by decide) (fun c2 => ?_) (fun c2 => ?_)
    · have hF := qs_pos c2 hF
      refine lv_iconst (v := 0) hx hb d_Q_isBelow_13 (by decide) ?_
      have h9 := Option.some.inj hF
      exact W.zret (ty := .boolean) (v := 0) hx hb hr rfl (fun t ht hW => ⟨⟨0, (), rfl, h9, trivial⟩, hS.F ht⟩) hS.2.2 d_Q_isBelow_14
    · have hF := qs_neg c2 hF
      refine lv_iconst (v := 1) hx hb d_Q_isBelow_9 (by decide) ?_
      refine lv_goto (tgt := 14) hx hb d_Q_isBelow_10 (by decide) ?_
      have h9 := Option.some.inj hF
      exact W.zret (ty := .boolean) (v := 1) hx hb hr rfl (fun t ht hW => ⟨⟨1, (), rfl, h9, trivial⟩, hS.F ht⟩) hS.2.2 d_Q_isBelow_14

theorem d_Q_isEntityOrWorld_0 : decode b_Q_isEntityOrWorld 0 = .ok (.iload_n 0, 1) := by decide +kernel
theorem d_Q_isEntityOrWorld_1 : decode b_Q_isEntityOrWorld 1 = .ok (.iconst (-1), 1) := by decide +kernel
theorem d_Q_isEntityOrWorld_2 : decode b_Q_isEntityOrWorld 2 = .ok (.if_icmp .eq 12, 3) := by decide +kernel
theorem d_Q_isEntityOrWorld_5 : decode b_Q_isEntityOrWorld 5 = .ok (.iload_n 0, 1) := by decide +kernel
theorem d_Q_isEntityOrWorld_6 : decode b_Q_isEntityOrWorld 6 = .ok (.bipush 12, 2) := by decide +kernel
theorem d_Q_isEntityOrWorld_8 : decode b_Q_isEntityOrWorld 8 = .ok (.invokestatic 83, 3) := by decide +kernel
theorem d_Q_isEntityOrWorld_11 : decode b_Q_isEntityOrWorld 11 = .ok (.ifCond .eq 7, 3) := by decide +kernel
theorem d_Q_isEntityOrWorld_14 : decode b_Q_isEntityOrWorld 14 = .ok (.iconst 1, 1) := by decide +kernel
theorem d_Q_isEntityOrWorld_15 : decode b_Q_isEntityOrWorld 15 = .ok (.goto 4, 3) := by decide +kernel
theorem d_Q_isEntityOrWorld_18 : decode b_Q_isEntityOrWorld 18 = .ok (.iconst 0, 1) := by decide +kernel
theorem d_Q_isEntityOrWorld_19 : decode b_Q_isEntityOrWorld 19 = .ok (.ireturn, 1) := by decide +kernel
def f_Q_isEntityOrWorld (a1 : Int32) : Option Int32 := (if a1 = (-1) then (some (1)) else (qs_pb (f_Q_isBelow (a1) (12)) fun r2 => (if r2 = 0 then (some (0)) else (some (1)))))
set_option maxHeartbeats 4000000 in
set_option maxRecDepth 100000 in
theorem c_Q_isEntityOrWorld (l : Launch) (sz : Nat) (a1 : Int32) (r0 : Int32) (hF : f_Q_isEntityOrWorld a1 = some r0) : Met l y_Q_isEntityOrWorld (qs_ws y_Q_isEntityOrWorld b_Q_isEntityOrWorld 1 (some .boolean)) ({ frames := 1, cells := 0, slots := 0, locals := 21 } : Room) (va_Pc ([.int a1] : List Value) (fun U => U.heap.size = sz ∧ qs_N U)) (va_Qi (fun (r : Int32) (_ : Unit) => r = r0) (fun _ _ => True) (va_A [] sz)) 0 0 (va_A [] sz) := by
  refine Met.ofW (cc := b_Q_isEntityOrWorld) (maxL := 1) (ret := (some .boolean)) (by decide +kernel) rfl ?_
  intro p e s m args below meth cd s₁ B hml hv
  obtain ⟨rfl, hsz, hNs⟩ := hv
  have hx := B.exec
  have hb := B.bytes
  have hr := B.returns
  have hts := atoms_spec (ws := (qs_ws y_Q_isEntityOrWorld b_Q_isEntityOrWorld 1 (some .boolean))) B.pre
  have hg : ∀ w ∈ qs_gt, w.before _ s = true := fun w h => hts w (List.mem_cons_of_mem _ h)
  have hown : s.vm.findClass R_Q = some m.cls := findClass_of_methodNamed B.named
  have hlocks := B.notSynchronized
  subst hsz
  have hD : va_D (va_A [] s.heap.size) [] := qs_D0
  have hP : va_P qs_G0 [] [] s.heap := qs_P0
  generalize hAe : va_A ([]) s.heap.size = A at hD ⊢
  have hA : ∀ q : Nat, s.heap.size ≤ q → A q := fun q h => by rw [← hAe]; exact Or.inr h
  have hS : va_S A s.heap s.heap [] := va_S.rf
  have hl := lv_entry ([.int a1] : List Value) (n := 1) (Nat.le_of_ble_eq_true rfl)
  rw [lg_entry_eq]
  generalize (lg_sl ([.int a1] : List Value) ++ List.replicate (1 - (lg_sl ([.int a1] : List Value)).length) Slot.unset).toArray = ls at hl ⊢
  have hl : lv_has ls 1 [(0, .int (a1))] := hl
  unfold f_Q_isEntityOrWorld at hF
  obtain ⟨H, hHe⟩ : ∃ H, H = s.heap := ⟨_, rfl⟩
  obtain ⟨locs, hLe⟩ : ∃ L : List Loc, L = [] := ⟨_, rfl⟩
  rw [← hHe] at hP ⊢
  rw [← hLe]
  have hS : va_S A s.heap H locs := by rw [hHe, hLe]; exact hS
  refine lv_iload_n hx hb d_Q_isEntityOrWorld_0 rfl (lv_at hl 0 rfl) ?_
  refine lv_iconst (v := (-1)) hx hb d_Q_isEntityOrWorld_1 (by decide) ?_
  refine lv_icmp_eq (tgt := 14) hx hb d_Q_isEntityOrWorld_2 (by decide) (fun c1 => ?_) (fun c1 => ?_)
  · have hF := qs_pos c1 hF
    refine lv_iconst (v := 1) hx hb d_Q_isEntityOrWorld_14 (by decide) ?_
    refine lv_goto (tgt := 19) hx hb d_Q_isEntityOrWorld_15 (by decide) ?_
    have h9 := Option.some.inj hF
    exact W.zret (ty := .boolean) (v := 1) hx hb hr rfl (fun t ht hW => ⟨⟨1, (), rfl, h9, trivial⟩, hS.F ht⟩) hS.2.2 d_Q_isEntityOrWorld_19
  · have hF := qs_neg c1 hF
    refine lv_iload_n hx hb d_Q_isEntityOrWorld_5 rfl (lv_at hl 0 rfl) ?_
    refine lv_bipush (v := 12) hx hb d_Q_isEntityOrWorld_6 (by decide) ?_
    obtain ⟨r2, hX, hF⟩ := qs_pb_some hF
    refine qs_psi (va_runS (own := "QuakeServer") (As := [.int (a1), .int (12)]) (rest := []) ⟨hx, hb, hml, hown, hg⟩ (c_Q_isBelow l H.size (a1) (12) r2 hX) (va_cwS 2 hg (qs_gS t_311 t_312 t_1 t_313) rfl rfl rfl (by decide +kernel) ⟨Nat.le_of_ble_eq_true rfl, Nat.le_of_ble_eq_true rfl⟩) ⟨qs_blind0, fun U hU hW => ⟨rfl, by rw [hU], hNs.warm hW⟩⟩ rfl rfl hl.1 rfl (lv_room (Nat.le_of_ble_eq_true rfl)) d_Q_isEntityOrWorld_8 ⟨Nat.le_of_ble_eq_true rfl, Nat.le_of_ble_eq_true rfl⟩) hP hD hS hA (fun H locs hP hS => ?_)
    refine lv_if_eq (tgt := 18) hx hb d_Q_isEntityOrWorld_11 (by decide) (fun c3 => ?_) (fun c3 => ?_)
    · have hF := qs_pos c3 hF
      refine lv_iconst (v := 0) hx hb d_Q_isEntityOrWorld_18 (by decide) ?_
      have h9 := Option.some.inj hF
      exact W.zret (ty := .boolean) (v := 0) hx hb hr rfl (fun t ht hW => ⟨⟨0, (), rfl, h9, trivial⟩, hS.F ht⟩) hS.2.2 d_Q_isEntityOrWorld_19
    · have hF := qs_neg c3 hF
      refine lv_iconst (v := 1) hx hb d_Q_isEntityOrWorld_14 (by decide) ?_
      refine lv_goto (tgt := 19) hx hb d_Q_isEntityOrWorld_15 (by decide) ?_
      have h9 := Option.some.inj hF
      exact W.zret (ty := .boolean) (v := 1) hx hb hr rfl (fun t ht hW => ⟨⟨1, (), rfl, h9, trivial⟩, hS.F ht⟩) hS.2.2 d_Q_isEntityOrWorld_19

theorem d_Q_isInWorld_0 : decode b_Q_isInWorld 0 = .ok (.iload_n 0, 1) := by decide +kernel
theorem d_Q_isInWorld_1 : decode b_Q_isInWorld 1 = .ok (.sipush (-1024), 3) := by decide +kernel
theorem d_Q_isInWorld_4 : decode b_Q_isInWorld 4 = .ok (.if_icmp .lt 14, 3) := by decide +kernel
theorem d_Q_isInWorld_7 : decode b_Q_isInWorld 7 = .ok (.iload_n 0, 1) := by decide +kernel
theorem d_Q_isInWorld_8 : decode b_Q_isInWorld 8 = .ok (.sipush 1024, 3) := by decide +kernel
theorem d_Q_isInWorld_11 : decode b_Q_isInWorld 11 = .ok (.if_icmp .gt 7, 3) := by decide +kernel
theorem d_Q_isInWorld_14 : decode b_Q_isInWorld 14 = .ok (.iconst 1, 1) := by decide +kernel
theorem d_Q_isInWorld_15 : decode b_Q_isInWorld 15 = .ok (.goto 4, 3) := by decide +kernel
theorem d_Q_isInWorld_18 : decode b_Q_isInWorld 18 = .ok (.iconst 0, 1) := by decide +kernel
theorem d_Q_isInWorld_19 : decode b_Q_isInWorld 19 = .ok (.ireturn, 1) := by decide +kernel
def f_Q_isInWorld (a1 : Int32) : Option Int32 := (if a1 < (-1024) then (some (0)) else (if 1024 < a1 then (some (0)) else (some (1))))
set_option maxHeartbeats 4000000 in
set_option maxRecDepth 100000 in
theorem c_Q_isInWorld (l : Launch) (sz : Nat) (a1 : Int32) (r0 : Int32) (hF : f_Q_isInWorld a1 = some r0) : Met l y_Q_isInWorld (qs_ws y_Q_isInWorld b_Q_isInWorld 1 (some .boolean)) ({ frames := 0, cells := 0, slots := 0, locals := 0 } : Room) (va_Pc ([.int a1] : List Value) (fun U => U.heap.size = sz ∧ qs_N U)) (va_Qi (fun (r : Int32) (_ : Unit) => r = r0) (fun _ _ => True) (va_A [] sz)) 0 0 (va_A [] sz) := by
  refine Met.ofW (cc := b_Q_isInWorld) (maxL := 1) (ret := (some .boolean)) (by decide +kernel) rfl ?_
  intro p e s m args below meth cd s₁ B hml hv
  obtain ⟨rfl, hsz, hNs⟩ := hv
  have hx := B.exec
  have hb := B.bytes
  have hr := B.returns
  have hts := atoms_spec (ws := (qs_ws y_Q_isInWorld b_Q_isInWorld 1 (some .boolean))) B.pre
  have hg : ∀ w ∈ qs_gt, w.before _ s = true := fun w h => hts w (List.mem_cons_of_mem _ h)
  have hown : s.vm.findClass R_Q = some m.cls := findClass_of_methodNamed B.named
  have hlocks := B.notSynchronized
  subst hsz
  have hD : va_D (va_A [] s.heap.size) [] := qs_D0
  have hP : va_P qs_G0 [] [] s.heap := qs_P0
  generalize hAe : va_A ([]) s.heap.size = A at hD ⊢
  have hA : ∀ q : Nat, s.heap.size ≤ q → A q := fun q h => by rw [← hAe]; exact Or.inr h
  have hS : va_S A s.heap s.heap [] := va_S.rf
  have hl := lv_entry ([.int a1] : List Value) (n := 1) (Nat.le_of_ble_eq_true rfl)
  rw [lg_entry_eq]
  generalize (lg_sl ([.int a1] : List Value) ++ List.replicate (1 - (lg_sl ([.int a1] : List Value)).length) Slot.unset).toArray = ls at hl ⊢
  have hl : lv_has ls 1 [(0, .int (a1))] := hl
  unfold f_Q_isInWorld at hF
  obtain ⟨H, hHe⟩ : ∃ H, H = s.heap := ⟨_, rfl⟩
  obtain ⟨locs, hLe⟩ : ∃ L : List Loc, L = [] := ⟨_, rfl⟩
  rw [← hHe] at hP ⊢
  rw [← hLe]
  have hS : va_S A s.heap H locs := by rw [hHe, hLe]; exact hS
  refine lv_iload_n hx hb d_Q_isInWorld_0 rfl (lv_at hl 0 rfl) ?_
  refine lv_sipush (v := (-1024)) hx hb d_Q_isInWorld_1 (by decide) ?_
  refine lv_icmp_lt (tgt := 18) hx hb d_Q_isInWorld_4 (by decide) (fun c1 => ?_) (fun c1 => ?_)
  · have hF := qs_pos c1 hF
    refine lv_iconst (v := 0) hx hb d_Q_isInWorld_18 (by decide) ?_
    have h9 := Option.some.inj hF
    exact W.zret (ty := .boolean) (v := 0) hx hb hr rfl (fun t ht hW => ⟨⟨0, (), rfl, h9, trivial⟩, hS.F ht⟩) hS.2.2 d_Q_isInWorld_19
  · have hF := qs_neg c1 hF
    refine lv_iload_n hx hb d_Q_isInWorld_7 rfl (lv_at hl 0 rfl) ?_
    refine lv_sipush (v := 1024) hx hb d_Q_isInWorld_8 (by decide) ?_
    refine lv_icmp_gt (tgt := 18) hx hb d_Q_isInWorld_11 (by decide) (fun c2 => ?_) (fun c2 => ?_)
    · have hF := qs_pos c2 hF
      refine lv_iconst (v := 0) hx hb d_Q_isInWorld_18 (by decide) ?_
      have h9 := Option.some.inj hF
      exact W.zret (ty := .boolean) (v := 0) hx hb hr rfl (fun t ht hW => ⟨⟨0, (), rfl, h9, trivial⟩, hS.F ht⟩) hS.2.2 d_Q_isInWorld_19
    · have hF := qs_neg c2 hF
      refine lv_iconst (v := 1) hx hb d_Q_isInWorld_14 (by decide) ?_
      refine lv_goto (tgt := 19) hx hb d_Q_isInWorld_15 (by decide) ?_
      have h9 := Option.some.inj hF
      exact W.zret (ty := .boolean) (v := 1) hx hb hr rfl (fun t ht hW => ⟨⟨1, (), rfl, h9, trivial⟩, hS.F ht⟩) hS.2.2 d_Q_isInWorld_19

theorem d_Q_isNumber_0 : decode b_Q_isNumber 0 = .ok (.dload_n 0, 1) := by decide +kernel
theorem d_Q_isNumber_1 : decode b_Q_isNumber 1 = .ok (.ldc2_w 203, 3) := by decide +kernel
theorem d_Q_isNumber_4 : decode b_Q_isNumber 4 = .ok (.dcmp .l, 1) := by decide +kernel
theorem d_Q_isNumber_5 : decode b_Q_isNumber 5 = .ok (.ifCond .lt 15, 3) := by decide +kernel
theorem d_Q_isNumber_8 : decode b_Q_isNumber 8 = .ok (.dload_n 0, 1) := by decide +kernel
theorem d_Q_isNumber_9 : decode b_Q_isNumber 9 = .ok (.ldc2_w 205, 3) := by decide +kernel
theorem d_Q_isNumber_12 : decode b_Q_isNumber 12 = .ok (.dcmp .g, 1) := by decide +kernel
theorem d_Q_isNumber_13 : decode b_Q_isNumber 13 = .ok (.ifCond .gt 7, 3) := by decide +kernel
theorem d_Q_isNumber_16 : decode b_Q_isNumber 16 = .ok (.iconst 1, 1) := by decide +kernel
theorem d_Q_isNumber_17 : decode b_Q_isNumber 17 = .ok (.goto 4, 3) := by decide +kernel
theorem d_Q_isNumber_20 : decode b_Q_isNumber 20 = .ok (.iconst 0, 1) := by decide +kernel
theorem d_Q_isNumber_21 : decode b_Q_isNumber 21 = .ok (.ireturn, 1) := by decide +kernel
def f_Q_isNumber (a1 : UInt64) : Option Int32 := (if (Op.cmpValue (FP.dcmp a1 (13893604850437980160 : UInt64)) .l) < 0 then (some (0)) else (if 0 < (Op.cmpValue (FP.dcmp a1 (4670232813583204352 : UInt64)) .g) then (some (0)) else (some (1))))
set_option maxHeartbeats 4000000 in
set_option maxRecDepth 100000 in
theorem c_Q_isNumber (l : Launch) (sz : Nat) (a1 : UInt64) (r0 : Int32) (hF : f_Q_isNumber a1 = some r0) : Met l y_Q_isNumber (qs_ws y_Q_isNumber b_Q_isNumber 2 (some .boolean)) ({ frames := 0, cells := 0, slots := 0, locals := 0 } : Room) (va_Pc ([.double a1] : List Value) (fun U => U.heap.size = sz ∧ qs_N U)) (va_Qi (fun (r : Int32) (_ : Unit) => r = r0) (fun _ _ => True) (va_A [] sz)) 0 0 (va_A [] sz) := by
  refine Met.ofW (cc := b_Q_isNumber) (maxL := 2) (ret := (some .boolean)) (by decide +kernel) rfl ?_
  intro p e s m args below meth cd s₁ B hml hv
  obtain ⟨rfl, hsz, hNs⟩ := hv
  have hx := B.exec
  have hb := B.bytes
  have hr := B.returns
  have hts := atoms_spec (ws := (qs_ws y_Q_isNumber b_Q_isNumber 2 (some .boolean))) B.pre
  have hg : ∀ w ∈ qs_gt, w.before _ s = true := fun w h => hts w (List.mem_cons_of_mem _ h)
  have hown : s.vm.findClass R_Q = some m.cls := findClass_of_methodNamed B.named
  have hlocks := B.notSynchronized
  subst hsz
  have hD : va_D (va_A [] s.heap.size) [] := qs_D0
  have hP : va_P qs_G0 [] [] s.heap := qs_P0
  generalize hAe : va_A ([]) s.heap.size = A at hD ⊢
  have hA : ∀ q : Nat, s.heap.size ≤ q → A q := fun q h => by rw [← hAe]; exact Or.inr h
  have hS : va_S A s.heap s.heap [] := va_S.rf
  have hl := lv_entry ([.double a1] : List Value) (n := 2) (Nat.le_of_ble_eq_true rfl)
  rw [lg_entry_eq]
  generalize (lg_sl ([.double a1] : List Value) ++ List.replicate (2 - (lg_sl ([.double a1] : List Value)).length) Slot.unset).toArray = ls at hl ⊢
  have hl : lv_has ls 2 [(0, .double (a1))] := hl
  unfold f_Q_isNumber at hF
  obtain ⟨H, hHe⟩ : ∃ H, H = s.heap := ⟨_, rfl⟩
  obtain ⟨locs, hLe⟩ : ∃ L : List Loc, L = [] := ⟨_, rfl⟩
  rw [← hHe] at hP ⊢
  rw [← hLe]
  have hS : va_S A s.heap H locs := by rw [hHe, hLe]; exact hS
  refine lv_dload_n hx hb d_Q_isNumber_0 rfl (lv_at hl 0 rfl) ?_
  refine lv_ldc2d (v := 13893604850437980160) hx hb hown (hg _ t_342) d_Q_isNumber_1 ?_
  refine lv_dcmp hx hb d_Q_isNumber_4 ?_
  refine lv_if_lt (tgt := 20) hx hb d_Q_isNumber_5 (by decide) (fun c1 => ?_) (fun c1 => ?_)
  · have hF := qs_pos c1 hF
    refine lv_iconst (v := 0) hx hb d_Q_isNumber_20 (by decide) ?_
    have h9 := Option.some.inj hF
    exact W.zret (ty := .boolean) (v := 0) hx hb hr rfl (fun t ht hW => ⟨⟨0, (), rfl, h9, trivial⟩, hS.F ht⟩) hS.2.2 d_Q_isNumber_21
  · have hF := qs_neg c1 hF
    refine lv_dload_n hx hb d_Q_isNumber_8 rfl (lv_at hl 0 rfl) ?_
    refine lv_ldc2d (v := 4670232813583204352) hx hb hown (hg _ t_343) d_Q_isNumber_9 ?_
    refine lv_dcmp hx hb d_Q_isNumber_12 ?_
    refine lv_if_gt (tgt := 20) hx hb d_Q_isNumber_13 (by decide) (fun c2 => ?_) (fun c2 => ?_)
    · have hF := qs_pos c2 hF
      refine lv_iconst (v := 0) hx hb d_Q_isNumber_20 (by decide) ?_
      have h9 := Option.some.inj hF
      exact W.zret (ty := .boolean) (v := 0) hx hb hr rfl (fun t ht hW => ⟨⟨0, (), rfl, h9, trivial⟩, hS.F ht⟩) hS.2.2 d_Q_isNumber_21
    · have hF := qs_neg c2 hF
      refine lv_iconst (v := 1) hx hb d_Q_isNumber_16 (by decide) ?_
      refine lv_goto (tgt := 21) hx hb d_Q_isNumber_17 (by decide) ?_
      have h9 := Option.some.inj hF
      exact W.zret (ty := .boolean) (v := 1) hx hb hr rfl (fun t ht hW => ⟨⟨1, (), rfl, h9, trivial⟩, hS.F ht⟩) hS.2.2 d_Q_isNumber_21

theorem d_Q_eighthsOf_0 : decode b_Q_eighthsOf 0 = .ok (.dload_n 0, 1) := by decide +kernel
theorem d_Q_eighthsOf_1 : decode b_Q_eighthsOf 1 = .ok (.ldc2_w 207, 3) := by decide +kernel
theorem d_Q_eighthsOf_4 : decode b_Q_eighthsOf 4 = .ok (.dmul, 1) := by decide +kernel
theorem d_Q_eighthsOf_5 : decode b_Q_eighthsOf 5 = .ok (.d2i, 1) := by decide +kernel
theorem d_Q_eighthsOf_6 : decode b_Q_eighthsOf 6 = .ok (.istore_n 2, 1) := by decide +kernel
theorem d_Q_eighthsOf_7 : decode b_Q_eighthsOf 7 = .ok (.iload_n 2, 1) := by decide +kernel
theorem d_Q_eighthsOf_8 : decode b_Q_eighthsOf 8 = .ok (.i2d, 1) := by decide +kernel
theorem d_Q_eighthsOf_9 : decode b_Q_eighthsOf 9 = .ok (.dload_n 0, 1) := by decide +kernel
theorem d_Q_eighthsOf_10 : decode b_Q_eighthsOf 10 = .ok (.ldc2_w 207, 3) := by decide +kernel
theorem d_Q_eighthsOf_13 : decode b_Q_eighthsOf 13 = .ok (.dmul, 1) := by decide +kernel
theorem d_Q_eighthsOf_14 : decode b_Q_eighthsOf 14 = .ok (.dcmp .l, 1) := by decide +kernel
theorem d_Q_eighthsOf_15 : decode b_Q_eighthsOf 15 = .ok (.ifCond .le 9, 3) := by decide +kernel
theorem d_Q_eighthsOf_18 : decode b_Q_eighthsOf 18 = .ok (.iload_n 2, 1) := by decide +kernel
theorem d_Q_eighthsOf_19 : decode b_Q_eighthsOf 19 = .ok (.iconst 1, 1) := by decide +kernel
theorem d_Q_eighthsOf_20 : decode b_Q_eighthsOf 20 = .ok (.isub, 1) := by decide +kernel
theorem d_Q_eighthsOf_21 : decode b_Q_eighthsOf 21 = .ok (.goto 4, 3) := by decide +kernel
theorem d_Q_eighthsOf_24 : decode b_Q_eighthsOf 24 = .ok (.iload_n 2, 1) := by decide +kernel
theorem d_Q_eighthsOf_25 : decode b_Q_eighthsOf 25 = .ok (.ireturn, 1) := by decide +kernel
def f_Q_eighthsOf (a1 : UInt64) : Option Int32 := (qs_nan (FP.dmul a1 (4620693217682128896 : UInt64)) (qs_nan (FP.dmul a1 (4620693217682128896 : UInt64)) (if (Op.cmpValue (FP.dcmp (FP.i2d (FP.d2i (FP.dmul a1 (4620693217682128896 : UInt64)))) (FP.dmul a1 (4620693217682128896 : UInt64))) .l) ≤ 0 then (some (FP.d2i (FP.dmul a1 (4620693217682128896 : UInt64)))) else (some ((FP.d2i (FP.dmul a1 (4620693217682128896 : UInt64))) - 1)))))
set_option maxHeartbeats 4000000 in
set_option maxRecDepth 100000 in
theorem c_Q_eighthsOf (l : Launch) (sz : Nat) (a1 : UInt64) (r0 : Int32) (hF : f_Q_eighthsOf a1 = some r0) : Met l y_Q_eighthsOf (qs_ws y_Q_eighthsOf b_Q_eighthsOf 3 (some .int)) ({ frames := 0, cells := 0, slots := 0, locals := 0 } : Room) (va_Pc ([.double a1] : List Value) (fun U => U.heap.size = sz ∧ qs_N U)) (va_Qi (fun (r : Int32) (_ : Unit) => r = r0) (fun _ _ => True) (va_A [] sz)) 0 0 (va_A [] sz) := by
  refine Met.ofW (cc := b_Q_eighthsOf) (maxL := 3) (ret := (some .int)) (by decide +kernel) rfl ?_
  intro p e s m args below meth cd s₁ B hml hv
  obtain ⟨rfl, hsz, hNs⟩ := hv
  have hx := B.exec
  have hb := B.bytes
  have hr := B.returns
  have hts := atoms_spec (ws := (qs_ws y_Q_eighthsOf b_Q_eighthsOf 3 (some .int))) B.pre
  have hg : ∀ w ∈ qs_gt, w.before _ s = true := fun w h => hts w (List.mem_cons_of_mem _ h)
  have hown : s.vm.findClass R_Q = some m.cls := findClass_of_methodNamed B.named
  have hlocks := B.notSynchronized
  subst hsz
  have hD : va_D (va_A [] s.heap.size) [] := qs_D0
  have hP : va_P qs_G0 [] [] s.heap := qs_P0
  generalize hAe : va_A ([]) s.heap.size = A at hD ⊢
  have hA : ∀ q : Nat, s.heap.size ≤ q → A q := fun q h => by rw [← hAe]; exact Or.inr h
  have hS : va_S A s.heap s.heap [] := va_S.rf
  have hl := lv_entry ([.double a1] : List Value) (n := 3) (Nat.le_of_ble_eq_true rfl)
  rw [lg_entry_eq]
  generalize (lg_sl ([.double a1] : List Value) ++ List.replicate (3 - (lg_sl ([.double a1] : List Value)).length) Slot.unset).toArray = ls at hl ⊢
  have hl : lv_has ls 3 [(0, .double (a1))] := hl
  unfold f_Q_eighthsOf at hF
  obtain ⟨H, hHe⟩ : ∃ H, H = s.heap := ⟨_, rfl⟩
  obtain ⟨locs, hLe⟩ : ∃ L : List Loc, L = [] := ⟨_, rfl⟩
  rw [← hHe] at hP ⊢
  rw [← hLe]
  have hS : va_S A s.heap H locs := by rw [hHe, hLe]; exact hS
  refine lv_dload_n hx hb d_Q_eighthsOf_0 rfl (lv_at hl 0 rfl) ?_
  refine lv_ldc2d (v := 4620693217682128896) hx hb hown (hg _ t_353) d_Q_eighthsOf_1 ?_
  obtain ⟨c1, hF⟩ := qs_nan_some hF
  refine lv_dmul hx hb d_Q_eighthsOf_4 c1 ?_
  refine lv_d2i hx hb d_Q_eighthsOf_5 ?_
  refine lv_istore_n (lv' := [(2, .int (FP.d2i (FP.dmul a1 (4620693217682128896 : UInt64)))), (0, .double (a1))]) hx hb d_Q_eighthsOf_6 rfl hl (by decide) rfl (fun ls hl => ?_)
  refine lv_iload_n hx hb d_Q_eighthsOf_7 rfl (lv_at hl 0 rfl) ?_
  refine lv_i2d hx hb d_Q_eighthsOf_8 ?_
  refine lv_dload_n hx hb d_Q_eighthsOf_9 rfl (lv_at hl 1 rfl) ?_
  refine lv_ldc2d (v := 4620693217682128896) hx hb hown (hg _ t_353) d_Q_eighthsOf_10 ?_
  obtain ⟨c2, hF⟩ := qs_nan_some hF
  refine lv_dmul hx hb d_Q_eighthsOf_13 c2 ?_
  refine lv_dcmp hx hb d_Q_eighthsOf_14 ?_
  refine lv_if_le (tgt := 24) hx hb d_Q_eighthsOf_15 (by decide) (fun c3 => ?_) (fun c3 => ?_)
  · have hF := qs_pos c3 hF
    refine lv_iload_n hx hb d_Q_eighthsOf_24 rfl (lv_at hl 0 rfl) ?_
    have h9 := Option.some.inj hF
    exact W.iret (v := FP.d2i (FP.dmul a1 (4620693217682128896 : UInt64))) hx hb hr (fun t ht hW => ⟨⟨(FP.d2i (FP.dmul a1 (4620693217682128896 : UInt64))), (), rfl, h9, trivial⟩, hS.F ht⟩) hS.2.2 d_Q_eighthsOf_25
  · have hF := qs_neg c3 hF
    refine lv_iload_n hx hb d_Q_eighthsOf_18 rfl (lv_at hl 0 rfl) ?_
    refine lv_iconst (v := 1) hx hb d_Q_eighthsOf_19 (by decide) ?_
    refine lv_isub hx hb d_Q_eighthsOf_20 ?_
    refine lv_goto (tgt := 25) hx hb d_Q_eighthsOf_21 (by decide) ?_
    have h9 := Option.some.inj hF
    exact W.iret (v := (FP.d2i (FP.dmul a1 (4620693217682128896 : UInt64))) - 1) hx hb hr (fun t ht hW => ⟨⟨((FP.d2i (FP.dmul a1 (4620693217682128896 : UInt64))) - 1), (), rfl, h9, trivial⟩, hS.F ht⟩) hS.2.2 d_Q_eighthsOf_25

theorem d_Q_valueOf_0 : decode b_Q_valueOf 0 = .ok (.iload_n 0, 1) := by decide +kernel
theorem d_Q_valueOf_1 : decode b_Q_valueOf 1 = .ok (.i2d, 1) := by decide +kernel
theorem d_Q_valueOf_2 : decode b_Q_valueOf 2 = .ok (.ldc2_w 207, 3) := by decide +kernel
theorem d_Q_valueOf_5 : decode b_Q_valueOf 5 = .ok (.ddiv, 1) := by decide +kernel
theorem d_Q_valueOf_6 : decode b_Q_valueOf 6 = .ok (.dreturn, 1) := by decide +kernel
def f_Q_valueOf (a1 : Int32) : Option UInt64 := (qs_nan (FP.ddiv (FP.i2d a1) (4620693217682128896 : UInt64)) (some (FP.ddiv (FP.i2d a1) (4620693217682128896 : UInt64))))
set_option maxHeartbeats 4000000 in
set_option maxRecDepth 100000 in
theorem c_Q_valueOf (l : Launch) (sz : Nat) (a1 : Int32) (r0 : UInt64) (hF : f_Q_valueOf a1 = some r0) : Met l y_Q_valueOf (qs_ws y_Q_valueOf b_Q_valueOf 1 (some .double)) ({ frames := 0, cells := 0, slots := 0, locals := 0 } : Room) (va_Pc ([.int a1] : List Value) (fun U => U.heap.size = sz ∧ qs_N U)) (va_Qd (fun (r : UInt64) (_ : Unit) => r = r0) (fun _ _ => True) (va_A [] sz)) 0 0 (va_A [] sz) := by
  refine Met.ofW (cc := b_Q_valueOf) (maxL := 1) (ret := (some .double)) (by decide +kernel) rfl ?_
  intro p e s m args below meth cd s₁ B hml hv
  obtain ⟨rfl, hsz, hNs⟩ := hv
  have hx := B.exec
  have hb := B.bytes
  have hr := B.returns
  have hts := atoms_spec (ws := (qs_ws y_Q_valueOf b_Q_valueOf 1 (some .double))) B.pre
  have hg : ∀ w ∈ qs_gt, w.before _ s = true := fun w h => hts w (List.mem_cons_of_mem _ h)
  have hown : s.vm.findClass R_Q = some m.cls := findClass_of_methodNamed B.named
  have hlocks := B.notSynchronized
  subst hsz
  have hD : va_D (va_A [] s.heap.size) [] := qs_D0
  have hP : va_P qs_G0 [] [] s.heap := qs_P0
  generalize hAe : va_A ([]) s.heap.size = A at hD ⊢
  have hA : ∀ q : Nat, s.heap.size ≤ q → A q := fun q h => by rw [← hAe]; exact Or.inr h
  have hS : va_S A s.heap s.heap [] := va_S.rf
  have hl := lv_entry ([.int a1] : List Value) (n := 1) (Nat.le_of_ble_eq_true rfl)
  rw [lg_entry_eq]
  generalize (lg_sl ([.int a1] : List Value) ++ List.replicate (1 - (lg_sl ([.int a1] : List Value)).length) Slot.unset).toArray = ls at hl ⊢
  have hl : lv_has ls 1 [(0, .int (a1))] := hl
  unfold f_Q_valueOf at hF
  obtain ⟨H, hHe⟩ : ∃ H, H = s.heap := ⟨_, rfl⟩
  obtain ⟨locs, hLe⟩ : ∃ L : List Loc, L = [] := ⟨_, rfl⟩
  rw [← hHe] at hP ⊢
  rw [← hLe]
  have hS : va_S A s.heap H locs := by rw [hHe, hLe]; exact hS
  refine lv_iload_n hx hb d_Q_valueOf_0 rfl (lv_at hl 0 rfl) ?_
  refine lv_i2d hx hb d_Q_valueOf_1 ?_
  refine lv_ldc2d (v := 4620693217682128896) hx hb hown (hg _ t_353) d_Q_valueOf_2 ?_
  obtain ⟨c1, hF⟩ := qs_nan_some hF
  refine lv_ddiv hx hb d_Q_valueOf_5 c1 ?_
  have h9 := Option.some.inj hF
  exact W.dret (v := FP.ddiv (FP.i2d a1) (4620693217682128896 : UInt64)) hx hb hr (fun t ht hW => ⟨⟨(FP.ddiv (FP.i2d a1) (4620693217682128896 : UInt64)), (), rfl, h9, trivial⟩, hS.F ht⟩) hS.2.2 d_Q_valueOf_6

theorem d_Q_wholeOf_0 : decode b_Q_wholeOf 0 = .ok (.iload_n 0, 1) := by decide +kernel
theorem d_Q_wholeOf_1 : decode b_Q_wholeOf 1 = .ok (.iconst 3, 1) := by decide +kernel
theorem d_Q_wholeOf_2 : decode b_Q_wholeOf 2 = .ok (.ishr, 1) := by decide +kernel
theorem d_Q_wholeOf_3 : decode b_Q_wholeOf 3 = .ok (.ireturn, 1) := by decide +kernel
def f_Q_wholeOf (a1 : Int32) : Option Int32 := (some (a1 >>> (3 &&& 31)))
set_option maxHeartbeats 4000000 in
set_option maxRecDepth 100000 in
theorem c_Q_wholeOf (l : Launch) (sz : Nat) (a1 : Int32) (r0 : Int32) (hF : f_Q_wholeOf a1 = some r0) : Met l y_Q_wholeOf (qs_ws y_Q_wholeOf b_Q_wholeOf 1 (some .int)) ({ frames := 0, cells := 0, slots := 0, locals := 0 } : Room) (va_Pc ([.int a1] : List Value) (fun U => U.heap.size = sz ∧ qs_N U)) (va_Qi (fun (r : Int32) (_ : Unit) => r = r0) (fun _ _ => True) (va_A [] sz)) 0 0 (va_A [] sz) := by
  refine Met.ofW (cc := b_Q_wholeOf) (maxL := 1) (ret := (some .int)) (by decide +kernel) rfl ?_
  intro p e s m args below meth cd s₁ B hml hv
  obtain ⟨rfl, hsz, hNs⟩ := hv
  have hx := B.exec
  have hb := B.bytes
  have hr := B.returns
  have hts := atoms_spec (ws := (qs_ws y_Q_wholeOf b_Q_wholeOf 1 (some .int))) B.pre
  have hg : ∀ w ∈ qs_gt, w.before _ s = true := fun w h => hts w (List.mem_cons_of_mem _ h)
  have hown : s.vm.findClass R_Q = some m.cls := findClass_of_methodNamed B.named
  have hlocks := B.notSynchronized
  subst hsz
  have hD : va_D (va_A [] s.heap.size) [] := qs_D0
  have hP : va_P qs_G0 [] [] s.heap := qs_P0
  generalize hAe : va_A ([]) s.heap.size = A at hD ⊢
  have hA : ∀ q : Nat, s.heap.size ≤ q → A q := fun q h => by rw [← hAe]; exact Or.inr h
  have hS : va_S A s.heap s.heap [] := va_S.rf
  have hl := lv_entry ([.int a1] : List Value) (n := 1) (Nat.le_of_ble_eq_true rfl)
  rw [lg_entry_eq]
  generalize (lg_sl ([.int a1] : List Value) ++ List.replicate (1 - (lg_sl ([.int a1] : List Value)).length) Slot.unset).toArray = ls at hl ⊢
  have hl : lv_has ls 1 [(0, .int (a1))] := hl
  unfold f_Q_wholeOf at hF
  obtain ⟨H, hHe⟩ : ∃ H, H = s.heap := ⟨_, rfl⟩
  obtain ⟨locs, hLe⟩ : ∃ L : List Loc, L = [] := ⟨_, rfl⟩
  rw [← hHe] at hP ⊢
  rw [← hLe]
  have hS : va_S A s.heap H locs := by rw [hHe, hLe]; exact hS
  refine lv_iload_n hx hb d_Q_wholeOf_0 rfl (lv_at hl 0 rfl) ?_
  refine lv_iconst (v := 3) hx hb d_Q_wholeOf_1 (by decide) ?_
  refine lv_ishr hx hb d_Q_wholeOf_2 ?_
  have h9 := Option.some.inj hF
  exact W.iret (v := a1 >>> (3 &&& 31)) hx hb hr (fun t ht hW => ⟨⟨(a1 >>> (3 &&& 31)), (), rfl, h9, trivial⟩, hS.F ht⟩) hS.2.2 d_Q_wholeOf_3

theorem d_Q_inRange_0 : decode b_Q_inRange 0 = .ok (.lload_n 0, 1) := by decide +kernel
theorem d_Q_inRange_1 : decode b_Q_inRange 1 = .ok (.ldc2_w 209, 3) := by decide +kernel
theorem d_Q_inRange_4 : decode b_Q_inRange 4 = .ok (.lcmp, 1) := by decide +kernel
theorem d_Q_inRange_5 : decode b_Q_inRange 5 = .ok (.ifCond .le 6, 3) := by decide +kernel
theorem d_Q_inRange_8 : decode b_Q_inRange 8 = .ok (.ldc 147, 2) := by decide +kernel
theorem d_Q_inRange_10 : decode b_Q_inRange 10 = .ok (.ireturn, 1) := by decide +kernel
theorem d_Q_inRange_11 : decode b_Q_inRange 11 = .ok (.lload_n 0, 1) := by decide +kernel
theorem d_Q_inRange_12 : decode b_Q_inRange 12 = .ok (.ldc2_w 211, 3) := by decide +kernel
theorem d_Q_inRange_15 : decode b_Q_inRange 15 = .ok (.lcmp, 1) := by decide +kernel
theorem d_Q_inRange_16 : decode b_Q_inRange 16 = .ok (.ifCond .ge 8, 3) := by decide +kernel
theorem d_Q_inRange_19 : decode b_Q_inRange 19 = .ok (.ldc 146, 2) := by decide +kernel
theorem d_Q_inRange_21 : decode b_Q_inRange 21 = .ok (.goto 5, 3) := by decide +kernel
theorem d_Q_inRange_24 : decode b_Q_inRange 24 = .ok (.lload_n 0, 1) := by decide +kernel
theorem d_Q_inRange_25 : decode b_Q_inRange 25 = .ok (.l2i, 1) := by decide +kernel
theorem d_Q_inRange_26 : decode b_Q_inRange 26 = .ok (.ireturn, 1) := by decide +kernel
def f_Q_inRange (a1 : Int64) : Option Int32 := (if (lg_cmp a1 (131072 : Int64)) ≤ 0 then (if 0 ≤ (lg_cmp a1 (-131072 : Int64)) then (some (a1.toInt32)) else (some ((-131072)))) else (some (131072)))
set_option maxHeartbeats 4000000 in
set_option maxRecDepth 100000 in
theorem c_Q_inRange (l : Launch) (sz : Nat) (a1 : Int64) (r0 : Int32) (hF : f_Q_inRange a1 = some r0) : Met l y_Q_inRange (qs_ws y_Q_inRange b_Q_inRange 2 (some .int)) ({ frames := 0, cells := 0, slots := 0, locals := 0 } : Room) (va_Pc ([.long a1] : List Value) (fun U => U.heap.size = sz ∧ qs_N U)) (va_Qi (fun (r : Int32) (_ : Unit) => r = r0) (fun _ _ => True) (va_A [] sz)) 0 0 (va_A [] sz) := by
  refine Met.ofW (cc := b_Q_inRange) (maxL := 2) (ret := (some .int)) (by decide +kernel) rfl ?_
  intro p e s m args below meth cd s₁ B hml hv
  obtain ⟨rfl, hsz, hNs⟩ := hv
  have hx := B.exec
  have hb := B.bytes
  have hr := B.returns
  have hts := atoms_spec (ws := (qs_ws y_Q_inRange b_Q_inRange 2 (some .int))) B.pre
  have hg : ∀ w ∈ qs_gt, w.before _ s = true := fun w h => hts w (List.mem_cons_of_mem _ h)
  have hown : s.vm.findClass R_Q = some m.cls := findClass_of_methodNamed B.named
  have hlocks := B.notSynchronized
  subst hsz
  have hD : va_D (va_A [] s.heap.size) [] := qs_D0
  have hP : va_P qs_G0 [] [] s.heap := qs_P0
  generalize hAe : va_A ([]) s.heap.size = A at hD ⊢
  have hA : ∀ q : Nat, s.heap.size ≤ q → A q := fun q h => by rw [← hAe]; exact Or.inr h
  have hS : va_S A s.heap s.heap [] := va_S.rf
  have hl := lv_entry ([.long a1] : List Value) (n := 2) (Nat.le_of_ble_eq_true rfl)
  rw [lg_entry_eq]
  generalize (lg_sl ([.long a1] : List Value) ++ List.replicate (2 - (lg_sl ([.long a1] : List Value)).length) Slot.unset).toArray = ls at hl ⊢
  have hl : lv_has ls 2 [(0, .long (a1))] := hl
  unfold f_Q_inRange at hF
  obtain ⟨H, hHe⟩ : ∃ H, H = s.heap := ⟨_, rfl⟩
  obtain ⟨locs, hLe⟩ : ∃ L : List Loc, L = [] := ⟨_, rfl⟩
  rw [← hHe] at hP ⊢
  rw [← hLe]
  have hS : va_S A s.heap H locs := by rw [hHe, hLe]; exact hS
  refine lv_lload_n hx hb d_Q_inRange_0 rfl (lv_at hl 0 rfl) ?_
  refine lv_ldc2 (v := 131072) hx hb hown (hg _ t_472) d_Q_inRange_1 ?_
  refine W.lcmp hx hb d_Q_inRange_4 ?_
  refine lv_if_le (tgt := 11) hx hb d_Q_inRange_5 (by decide) (fun c1 => ?_) (fun c1 => ?_)
  · have hF := qs_pos c1 hF
    refine lv_lload_n hx hb d_Q_inRange_11 rfl (lv_at hl 0 rfl) ?_
    refine lv_ldc2 (v := (-131072)) hx hb hown (hg _ t_473) d_Q_inRange_12 ?_
    refine W.lcmp hx hb d_Q_inRange_15 ?_
    refine lv_if_ge (tgt := 24) hx hb d_Q_inRange_16 (by decide) (fun c2 => ?_) (fun c2 => ?_)
    · have hF := qs_pos c2 hF
      refine lv_lload_n hx hb d_Q_inRange_24 rfl (lv_at hl 0 rfl) ?_
      refine lv_l2i (v := a1.toInt32) hx hb d_Q_inRange_25 rfl ?_
      have h9 := Option.some.inj hF
      exact W.iret (v := a1.toInt32) hx hb hr (fun t ht hW => ⟨⟨(a1.toInt32), (), rfl, h9, trivial⟩, hS.F ht⟩) hS.2.2 d_Q_inRange_26
    · have hF := qs_neg c2 hF
      refine lv_ldc (v := (-131072)) hx hb hown (hg _ t_415) d_Q_inRange_19 ?_
      refine lv_goto (tgt := 26) hx hb d_Q_inRange_21 (by decide) ?_
      have h9 := Option.some.inj hF
      exact W.iret (v := (-131072)) hx hb hr (fun t ht hW => ⟨⟨(-131072), (), rfl, h9, trivial⟩, hS.F ht⟩) hS.2.2 d_Q_inRange_26
  · have hF := qs_neg c1 hF
    refine lv_ldc (v := 131072) hx hb hown (hg _ t_416) d_Q_inRange_8 ?_
    have h9 := Option.some.inj hF
    exact W.iret (v := 131072) hx hb hr (fun t ht hW => ⟨⟨131072, (), rfl, h9, trivial⟩, hS.F ht⟩) hS.2.2 d_Q_inRange_10
