theorem d_N_thrown_0 : decode b_N_thrown 0 = .ok (.aload_n 0, 1) := by decide +kernel
theorem d_N_thrown_1 : decode b_N_thrown 1 = .ok (.getfield 52, 3) := by decide +kernel
theorem d_N_thrown_4 : decode b_N_thrown 4 = .ok (.ireturn, 1) := by decide +kernel
def f_N_thrown (g : Sm)  : Option (Int32 × Sm) := (some (g.1 20 0, g))
set_option maxHeartbeats 4000000 in
set_option maxRecDepth 100000 in
theorem c_N_thrown (l : Launch) (dC : Nat → ClassId) (dI : Nat → Nat → Nat) (h : Nat → Nat) (c : Nat → ClassId) (sz : Nat) (g : Sm)  (r0 : Int32) (u0 : Sm) (hF : f_N_thrown g  = some (r0, u0)) : Met l y_N_thrown (qs_ws y_N_thrown b_N_thrown 1 (some .int)) ({ frames := 0, cells := 0, slots := 0, locals := 0 } : Room) (va_Pc ([.ref (h 0)] : List Value) (fun U => U.heap.size = sz ∧ va_P (dC, dI) vwCl (ms_W h c g) U.heap ∧ va_K (dC, dI) vwCl (ms_T c) U ∧ va_D (fun _ => True) (ms_W h c g) ∧ qs_N U)) (va_Qi (fun (r : Int32) (u : Sm) => r = r0 ∧ u = u0) (ms_at dC dI h c (va_A (ms_W h c g) sz)) (va_A (ms_W h c g) sz)) 0 0 (va_A (ms_W h c g) sz) := by
  refine Met.ofW (cc := b_N_thrown) (maxL := 1) (ret := (some .int)) (by decide +kernel) rfl ?_
  intro p e s m args below meth cd s₁ B hml hv
  obtain ⟨rfl, hsz, hP, hK, hD0, hNs⟩ := hv
  have hx := B.exec
  have hb := B.bytes
  have hr := B.returns
  have hts := atoms_spec (ws := (qs_ws y_N_thrown b_N_thrown 1 (some .int))) B.pre
  have hg : ∀ w ∈ qs_gt, w.before _ s = true := fun w h => hts w (List.mem_cons_of_mem _ h)
  have hown : s.vm.findClass R_N = some m.cls := findClass_of_methodNamed B.named
  have hlocks := B.notSynchronized
  subst hsz
  have hD := hD0.self (sz := s.heap.size)
  generalize hAe : va_A (ms_W h c g) s.heap.size = A at hD ⊢
  have hA : ∀ q : Nat, s.heap.size ≤ q → A q := fun q h => by rw [← hAe]; exact Or.inr h
  have hS : va_S A s.heap s.heap [] := va_S.rf
  have hl := lv_entry ([.ref (h 0)] : List Value) (n := 1) (Nat.le_of_ble_eq_true rfl)
  rw [lg_entry_eq]
  generalize (lg_sl ([.ref (h 0)] : List Value) ++ List.replicate (1 - (lg_sl ([.ref (h 0)] : List Value)).length) Slot.unset).toArray = ls at hl ⊢
  have hl : lv_has ls 1 [(0, .ref (h 0))] := hl
  unfold f_N_thrown at hF
  obtain ⟨H, hHe⟩ : ∃ H, H = s.heap := ⟨_, rfl⟩
  obtain ⟨locs, hLe⟩ : ∃ L : List Loc, L = [] := ⟨_, rfl⟩
  rw [← hHe] at hP ⊢
  rw [← hLe]
  have hS : va_S A s.heap H locs := by rw [hHe, hLe]; exact hS
  refine lv_aload_n hx hb d_N_thrown_0 rfl (lv_at hl 0 rfl) ?_
  refine va_get (D := (dC, dI)) (ci := 7) (v := .int (g.1 20 0)) (C := R_N) (T := T_N) (N := 22) hx hb hg in_N hown hK hP 0 rfl rfl 0 (by decide) (hg _ t_618) (fun _ h9 => h9) rfl d_N_thrown_1 ?_
  obtain ⟨h8, h9⟩ := qs_ret hF
  exact W.iret (v := g.1 20 0) hx hb hr (fun t ht hW => ⟨⟨(g.1 20 0), g, rfl, ⟨h8, h9⟩, by rw [ht]; exact hP, va_K.moved hW.alike hK, hD⟩, hS.F ht⟩) hS.2.2 d_N_thrown_4

theorem d_N_fail_0 : decode b_N_fail 0 = .ok (.aload_n 0, 1) := by decide +kernel
theorem d_N_fail_1 : decode b_N_fail 1 = .ok (.iload_n 1, 1) := by decide +kernel
theorem d_N_fail_2 : decode b_N_fail 2 = .ok (.putfield 52, 3) := by decide +kernel
theorem d_N_fail_5 : decode b_N_fail 5 = .ok (.iconst 0, 1) := by decide +kernel
theorem d_N_fail_6 : decode b_N_fail 6 = .ok (.ireturn, 1) := by decide +kernel
def f_N_fail (g : Sm) (a1 : Int32) : Option (Int32 × Sm) := (qs_st (qm_i g 20 (a1)) fun u1 => (some (0, u1)))
set_option maxHeartbeats 4000000 in
set_option maxRecDepth 100000 in
theorem c_N_fail (l : Launch) (dC : Nat → ClassId) (dI : Nat → Nat → Nat) (h : Nat → Nat) (c : Nat → ClassId) (sz : Nat) (g : Sm) (a1 : Int32) (r0 : Int32) (u0 : Sm) (hF : f_N_fail g a1 = some (r0, u0)) : Met l y_N_fail (qs_ws y_N_fail b_N_fail 2 (some .int)) ({ frames := 0, cells := 0, slots := 0, locals := 0 } : Room) (va_Pc ([.ref (h 0), .int a1] : List Value) (fun U => U.heap.size = sz ∧ va_P (dC, dI) vwCl (ms_W h c g) U.heap ∧ va_K (dC, dI) vwCl (ms_T c) U ∧ va_D (fun _ => True) (ms_W h c g) ∧ qs_N U)) (va_Qi (fun (r : Int32) (u : Sm) => r = r0 ∧ u = u0) (ms_at dC dI h c (va_A (ms_W h c g) sz)) (va_A (ms_W h c g) sz)) 0 0 (va_A (ms_W h c g) sz) := by
  refine Met.ofW (cc := b_N_fail) (maxL := 2) (ret := (some .int)) (by decide +kernel) rfl ?_
  intro p e s m args below meth cd s₁ B hml hv
  obtain ⟨rfl, hsz, hP, hK, hD0, hNs⟩ := hv
  have hx := B.exec
  have hb := B.bytes
  have hr := B.returns
  have hts := atoms_spec (ws := (qs_ws y_N_fail b_N_fail 2 (some .int))) B.pre
  have hg : ∀ w ∈ qs_gt, w.before _ s = true := fun w h => hts w (List.mem_cons_of_mem _ h)
  have hown : s.vm.findClass R_N = some m.cls := findClass_of_methodNamed B.named
  have hlocks := B.notSynchronized
  subst hsz
  have hD := hD0.self (sz := s.heap.size)
  generalize hAe : va_A (ms_W h c g) s.heap.size = A at hD ⊢
  have hA : ∀ q : Nat, s.heap.size ≤ q → A q := fun q h => by rw [← hAe]; exact Or.inr h
  have hS : va_S A s.heap s.heap [] := va_S.rf
  have hl := lv_entry ([.ref (h 0), .int a1] : List Value) (n := 2) (Nat.le_of_ble_eq_true rfl)
  rw [lg_entry_eq]
  generalize (lg_sl ([.ref (h 0), .int a1] : List Value) ++ List.replicate (2 - (lg_sl ([.ref (h 0), .int a1] : List Value)).length) Slot.unset).toArray = ls at hl ⊢
  have hl : lv_has ls 2 [(0, .ref (h 0)), (1, .int (a1))] := hl
  unfold f_N_fail at hF
  obtain ⟨H, hHe⟩ : ∃ H, H = s.heap := ⟨_, rfl⟩
  obtain ⟨locs, hLe⟩ : ∃ L : List Loc, L = [] := ⟨_, rfl⟩
  rw [← hHe] at hP ⊢
  rw [← hLe]
  have hS : va_S A s.heap H locs := by rw [hHe, hLe]; exact hS
  refine lv_aload_n hx hb d_N_fail_0 rfl (lv_at hl 0 rfl) ?_
  refine lv_iload_n hx hb d_N_fail_1 rfl (lv_at hl 1 rfl) ?_
  refine va_put (D := (dC, dI)) (ci := 7) (v := .int (a1)) (ty := .int) (C := R_N) (T := T_N) (N := 22) hx hb hg in_N ty_N ty_N_ok nm_N hown hK hP hD hS 0 rfl rfl 0 (by decide) (hg _ t_618) (fun _ h9 => h9) rfl (by decide +kernel) rfl rfl (Nat.le_of_ble_eq_true rfl) d_N_fail_2 (fun H locs hP hD hS => ?_)
  obtain ⟨u1, hu1, hF⟩ := qs_st_some hF
  have hP : va_P (dC, dI) vwCl (ms_W h c u1) H := by rw [hu1]; exact hP
  have hD : va_D A (ms_W h c u1) := by rw [hu1]; exact hD
  clear hu1
  refine lv_iconst (v := 0) hx hb d_N_fail_5 (by decide) ?_
  obtain ⟨h8, h9⟩ := qs_ret hF
  exact W.iret (v := 0) hx hb hr (fun t ht hW => ⟨⟨0, u1, rfl, ⟨h8, h9⟩, by rw [ht]; exact hP, va_K.moved hW.alike hK, hD⟩, hS.F ht⟩) hS.2.2 d_N_fail_6

theorem d_N_in_0 : decode b_N_in 0 = .ok (.iload_n 0, 1) := by decide +kernel
theorem d_N_in_1 : decode b_N_in 1 = .ok (.iload_n 1, 1) := by decide +kernel
theorem d_N_in_2 : decode b_N_in 2 = .ok (.if_icmp .lt 12, 3) := by decide +kernel
theorem d_N_in_5 : decode b_N_in 5 = .ok (.iload_n 0, 1) := by decide +kernel
theorem d_N_in_6 : decode b_N_in 6 = .ok (.iload_n 2, 1) := by decide +kernel
theorem d_N_in_7 : decode b_N_in 7 = .ok (.if_icmp .gt 7, 3) := by decide +kernel
theorem d_N_in_10 : decode b_N_in 10 = .ok (.iconst 1, 1) := by decide +kernel
theorem d_N_in_11 : decode b_N_in 11 = .ok (.goto 4, 3) := by decide +kernel
theorem d_N_in_14 : decode b_N_in 14 = .ok (.iconst 0, 1) := by decide +kernel
theorem d_N_in_15 : decode b_N_in 15 = .ok (.ireturn, 1) := by decide +kernel
def f_N_in (a1 : Int32) (a2 : Int32) (a3 : Int32) : Option Int32 := (if a1 < a2 then (some (0)) else (if a3 < a1 then (some (0)) else (some (1))))
set_option maxHeartbeats 4000000 in
set_option maxRecDepth 100000 in
theorem c_N_in (l : Launch) (sz : Nat) (a1 : Int32) (a2 : Int32) (a3 : Int32) (r0 : Int32) (hF : f_N_in a1 a2 a3 = some r0) : Met l y_N_in (qs_ws y_N_in b_N_in 3 (some .boolean)) ({ frames := 0, cells := 0, slots := 0, locals := 0 } : Room) (va_Pc ([.int a1, .int a2, .int a3] : List Value) (fun U => U.heap.size = sz ∧ qs_N U)) (va_Qi (fun (r : Int32) (_ : Unit) => r = r0) (fun _ _ => True) (va_A [] sz)) 0 0 (va_A [] sz) := by
  refine Met.ofW (cc := b_N_in) (maxL := 3) (ret := (some .boolean)) (by decide +kernel) rfl ?_
  intro p e s m args below meth cd s₁ B hml hv
  obtain ⟨rfl, hsz, hNs⟩ := hv
  have hx := B.exec
  have hb := B.bytes
  have hr := B.returns
  have hts := atoms_spec (ws := (qs_ws y_N_in b_N_in 3 (some .boolean))) B.pre
  have hg : ∀ w ∈ qs_gt, w.before _ s = true := fun w h => hts w (List.mem_cons_of_mem _ h)
  have hown : s.vm.findClass R_N = some m.cls := findClass_of_methodNamed B.named
  have hlocks := B.notSynchronized
  subst hsz
  have hD : va_D (va_A [] s.heap.size) [] := qs_D0
  have hP : va_P qs_G0 [] [] s.heap := qs_P0
  generalize hAe : va_A ([]) s.heap.size = A at hD ⊢
  have hA : ∀ q : Nat, s.heap.size ≤ q → A q := fun q h => by rw [← hAe]; exact Or.inr h
  have hS : va_S A s.heap s.heap [] := va_S.rf
  have hl := lv_entry ([.int a1, .int a2, .int a3] : List Value) (n := 3) (Nat.le_of_ble_eq_true rfl)
  rw [lg_entry_eq]
  generalize (lg_sl ([.int a1, .int a2, .int a3] : List Value) ++ List.replicate (3 - (lg_sl ([.int a1, .int a2, .int a3] : List Value)).length) Slot.unset).toArray = ls at hl ⊢
  have hl : lv_has ls 3 [(0, .int (a1)), (1, .int (a2)), (2, .int (a3))] := hl
  unfold f_N_in at hF
  obtain ⟨H, hHe⟩ : ∃ H, H = s.heap := ⟨_, rfl⟩
  obtain ⟨locs, hLe⟩ : ∃ L : List Loc, L = [] := ⟨_, rfl⟩
  rw [← hHe] at hP ⊢
  rw [← hLe]
  have hS : va_S A s.heap H locs := by rw [hHe, hLe]; exact hS
  refine lv_iload_n hx hb d_N_in_0 rfl (lv_at hl 0 rfl) ?_
  refine lv_iload_n hx hb d_N_in_1 rfl (lv_at hl 1 rfl) ?_
  refine lv_icmp_lt (tgt := 14) hx hb d_N_in_2 (by decide) (fun c1 => ?_) (fun c1 => ?_)
  · have hF := qs_pos c1 hF
    refine lv_iconst (v := 0) hx hb d_N_in_14 (by decide) ?_
    have h9 := Option.some.inj hF
    exact W.zret (ty := .boolean) (v := 0) hx hb hr rfl (fun t ht hW => ⟨⟨0, (), rfl, h9, trivial⟩, hS.F ht⟩) hS.2.2 d_N_in_15
  · have hF := qs_neg c1 hF
    refine lv_iload_n hx hb d_N_in_5 rfl (lv_at hl 0 rfl) ?_
    refine lv_iload_n hx hb d_N_in_6 rfl (lv_at hl 2 rfl) ?_
    refine lv_icmp_gt (tgt := 14) hx hb d_N_in_7 (by decide) (fun c2 => ?_) (fun c2 => ?_)
    · have hF := qs_pos c2 hF
      refine lv_iconst (v := 0) hx hb d_N_in_14 (by decide) ?_
      have h9 := Option.some.inj hF
      exact W.zret (ty := .boolean) (v := 0) hx hb hr rfl (fun t ht hW => ⟨⟨0, (), rfl, h9, trivial⟩, hS.F ht⟩) hS.2.2 d_N_in_15
    · have hF := qs_neg c2 hF
      refine lv_iconst (v := 1) hx hb d_N_in_10 (by decide) ?_
      refine lv_goto (tgt := 15) hx hb d_N_in_11 (by decide) ?_
      have h9 := Option.some.inj hF
      exact W.zret (ty := .boolean) (v := 1) hx hb hr rfl (fun t ht hW => ⟨⟨1, (), rfl, h9, trivial⟩, hS.F ht⟩) hS.2.2 d_N_in_15

theorem d_N_clamp_0 : decode b_N_clamp 0 = .ok (.lload_n 0, 1) := by decide +kernel
theorem d_N_clamp_1 : decode b_N_clamp 1 = .ok (.ldc2_w 55, 3) := by decide +kernel
theorem d_N_clamp_4 : decode b_N_clamp 4 = .ok (.lcmp, 1) := by decide +kernel
theorem d_N_clamp_5 : decode b_N_clamp 5 = .ok (.ifCond .ge 9, 3) := by decide +kernel
theorem d_N_clamp_8 : decode b_N_clamp 8 = .ok (.ldc2_w 55, 3) := by decide +kernel
theorem d_N_clamp_11 : decode b_N_clamp 11 = .ok (.goto 18, 3) := by decide +kernel
theorem d_N_clamp_14 : decode b_N_clamp 14 = .ok (.lload_n 0, 1) := by decide +kernel
theorem d_N_clamp_15 : decode b_N_clamp 15 = .ok (.ldc2_w 57, 3) := by decide +kernel
theorem d_N_clamp_18 : decode b_N_clamp 18 = .ok (.lcmp, 1) := by decide +kernel
theorem d_N_clamp_19 : decode b_N_clamp 19 = .ok (.ifCond .le 9, 3) := by decide +kernel
theorem d_N_clamp_22 : decode b_N_clamp 22 = .ok (.ldc2_w 57, 3) := by decide +kernel
theorem d_N_clamp_25 : decode b_N_clamp 25 = .ok (.goto 4, 3) := by decide +kernel
theorem d_N_clamp_28 : decode b_N_clamp 28 = .ok (.lload_n 0, 1) := by decide +kernel
theorem d_N_clamp_29 : decode b_N_clamp 29 = .ok (.lreturn, 1) := by decide +kernel
def f_N_clamp (a1 : Int64) : Option Int64 := (if 0 ≤ (lg_cmp a1 (-131072 : Int64)) then (if (lg_cmp a1 (131072 : Int64)) ≤ 0 then (some (a1)) else (some ((131072 : Int64)))) else (some ((-131072 : Int64))))
set_option maxHeartbeats 4000000 in
set_option maxRecDepth 100000 in
theorem c_N_clamp (l : Launch) (sz : Nat) (a1 : Int64) (r0 : Int64) (hF : f_N_clamp a1 = some r0) : Met l y_N_clamp (qs_ws y_N_clamp b_N_clamp 2 (some .long)) ({ frames := 0, cells := 0, slots := 0, locals := 0 } : Room) (va_Pc ([.long a1] : List Value) (fun U => U.heap.size = sz ∧ qs_N U)) (va_Ql (fun (r : Int64) (_ : Unit) => r = r0) (fun _ _ => True) (va_A [] sz)) 0 0 (va_A [] sz) := by
  refine Met.ofW (cc := b_N_clamp) (maxL := 2) (ret := (some .long)) (by decide +kernel) rfl ?_
  intro p e s m args below meth cd s₁ B hml hv
  obtain ⟨rfl, hsz, hNs⟩ := hv
  have hx := B.exec
  have hb := B.bytes
  have hr := B.returns
  have hts := atoms_spec (ws := (qs_ws y_N_clamp b_N_clamp 2 (some .long))) B.pre
  have hg : ∀ w ∈ qs_gt, w.before _ s = true := fun w h => hts w (List.mem_cons_of_mem _ h)
  have hown : s.vm.findClass R_N = some m.cls := findClass_of_methodNamed B.named
  have hlocks := B.notSynchronized
  subst hsz
  have hD : va_D (va_A [] s.heap.size) [] := qs_D0
  have hP : va_P qs_G0 [] [] s.heap := qs_P0
  generalize hAe : va_A ([]) s.heap.size = A at hD ⊢
  have hA : ∀ q : Nat, s.heap.size ≤ q → A q := fun q h => by rw [← hAe]; exact Or.inr h
  have hS : va_S A s.heap s.heap [] := va_S.rf
  have hl := lv_entry ([.long a1] : List Value) (n := 2) (Nat.le_of_ble_eq_true rfl)
  rw [lg_entry_eq]
  generalize (lg_sl ([.long a1] : List Value) ++ List.replicate (2 - (lg_sl ([.long a1] : List Value)).length) Slot.unset).toArray = ls at hl ⊢
  have hl : lv_has ls 2 [(0, .long (a1))] := hl
  unfold f_N_clamp at hF
  obtain ⟨H, hHe⟩ : ∃ H, H = s.heap := ⟨_, rfl⟩
  obtain ⟨locs, hLe⟩ : ∃ L : List Loc, L = [] := ⟨_, rfl⟩
  rw [← hHe] at hP ⊢
  rw [← hLe]
  have hS : va_S A s.heap H locs := by rw [hHe, hLe]; exact hS
  refine lv_lload_n hx hb d_N_clamp_0 rfl (lv_at hl 0 rfl) ?_
  refine lv_ldc2 (v := (-131072)) hx hb hown (hg _ t_747) d_N_clamp_1 ?_
  refine W.lcmp hx hb d_N_clamp_4 ?_
  refine lv_if_ge (tgt := 14) hx hb d_N_clamp_5 (by decide) (fun c1 => ?_) (fun c1 => ?_)
  · have hF := qs_pos c1 hF
    refine lv_lload_n hx hb d_N_clamp_14 rfl (lv_at hl 0 rfl) ?_
    refine lv_ldc2 (v := 131072) hx hb hown (hg _ t_748) d_N_clamp_15 ?_
    refine W.lcmp hx hb d_N_clamp_18 ?_
    refine lv_if_le (tgt := 28) hx hb d_N_clamp_19 (by decide) (fun c2 => ?_) (fun c2 => ?_)
    · have hF := qs_pos c2 hF
      refine lv_lload_n hx hb d_N_clamp_28 rfl (lv_at hl 0 rfl) ?_
      have h9 := Option.some.inj hF
      exact W.lret (v := a1) hx hb hr (fun t ht hW => ⟨⟨a1, (), rfl, h9, trivial⟩, hS.F ht⟩) hS.2.2 d_N_clamp_29
    · have hF := qs_neg c2 hF
      refine lv_ldc2 (v := 131072) hx hb hown (hg _ t_748) d_N_clamp_22 ?_
      refine lv_goto (tgt := 29) hx hb d_N_clamp_25 (by decide) ?_
      have h9 := Option.some.inj hF
      exact W.lret (v := (131072 : Int64)) hx hb hr (fun t ht hW => ⟨⟨(131072 : Int64), (), rfl, h9, trivial⟩, hS.F ht⟩) hS.2.2 d_N_clamp_29
  · have hF := qs_neg c1 hF
    refine lv_ldc2 (v := (-131072)) hx hb hown (hg _ t_747) d_N_clamp_8 ?_
    refine lv_goto (tgt := 29) hx hb d_N_clamp_11 (by decide) ?_
    have h9 := Option.some.inj hF
    exact W.lret (v := (-131072 : Int64)) hx hb hr (fun t ht hW => ⟨⟨(-131072 : Int64), (), rfl, h9, trivial⟩, hS.F ht⟩) hS.2.2 d_N_clamp_29

theorem d_N_down_0 : decode b_N_down 0 = .ok (.lload_n 0, 1) := by decide +kernel
theorem d_N_down_1 : decode b_N_down 1 = .ok (.lload_n 2, 1) := by decide +kernel
theorem d_N_down_2 : decode b_N_down 2 = .ok (.ldiv, 1) := by decide +kernel
theorem d_N_down_3 : decode b_N_down 3 = .ok (.lload_n 0, 1) := by decide +kernel
theorem d_N_down_4 : decode b_N_down 4 = .ok (.lload_n 2, 1) := by decide +kernel
theorem d_N_down_5 : decode b_N_down 5 = .ok (.lrem, 1) := by decide +kernel
theorem d_N_down_6 : decode b_N_down 6 = .ok (.lconst 0, 1) := by decide +kernel
theorem d_N_down_7 : decode b_N_down 7 = .ok (.lcmp, 1) := by decide +kernel
theorem d_N_down_8 : decode b_N_down 8 = .ok (.ifCond .ge 7, 3) := by decide +kernel
theorem d_N_down_11 : decode b_N_down 11 = .ok (.iconst 1, 1) := by decide +kernel
theorem d_N_down_12 : decode b_N_down 12 = .ok (.goto 4, 3) := by decide +kernel
theorem d_N_down_15 : decode b_N_down 15 = .ok (.iconst 0, 1) := by decide +kernel
theorem d_N_down_16 : decode b_N_down 16 = .ok (.i2l, 1) := by decide +kernel
theorem d_N_down_17 : decode b_N_down 17 = .ok (.lsub, 1) := by decide +kernel
theorem d_N_down_18 : decode b_N_down 18 = .ok (.lreturn, 1) := by decide +kernel
def f_N_down (a1 : Int64) (a2 : Int64) : Option Int64 := (qs_nzl (a2) (qs_nzl (a2) (if 0 ≤ (lg_cmp (a1 - a1 / a2 * a2) (0 : Int64)) then (some ((a1 / a2) - ((0 : Int32).toInt64))) else (some ((a1 / a2) - ((1 : Int32).toInt64))))))
set_option maxHeartbeats 4000000 in
set_option maxRecDepth 100000 in
theorem c_N_down (l : Launch) (sz : Nat) (a1 : Int64) (a2 : Int64) (r0 : Int64) (hF : f_N_down a1 a2 = some r0) : Met l y_N_down (qs_ws y_N_down b_N_down 4 (some .long)) ({ frames := 0, cells := 0, slots := 0, locals := 0 } : Room) (va_Pc ([.long a1, .long a2] : List Value) (fun U => U.heap.size = sz ∧ qs_N U)) (va_Ql (fun (r : Int64) (_ : Unit) => r = r0) (fun _ _ => True) (va_A [] sz)) 0 0 (va_A [] sz) := by
  refine Met.ofW (cc := b_N_down) (maxL := 4) (ret := (some .long)) (by decide +kernel) rfl ?_
  intro p e s m args below meth cd s₁ B hml hv
  obtain ⟨rfl, hsz, hNs⟩ := hv
  have hx := B.exec
  have hb := B.bytes
  have hr := B.returns
  have hts := atoms_spec (ws := (qs_ws y_N_down b_N_down 4 (some .long))) B.pre
  have hg : ∀ w ∈ qs_gt, w.before _ s = true := fun w h => hts w (List.mem_cons_of_mem _ h)
  have hown : s.vm.findClass R_N = some m.cls := findClass_of_methodNamed B.named
  have hlocks := B.notSynchronized
  subst hsz
  have hD : va_D (va_A [] s.heap.size) [] := qs_D0
  have hP : va_P qs_G0 [] [] s.heap := qs_P0
  generalize hAe : va_A ([]) s.heap.size = A at hD ⊢
  have hA : ∀ q : Nat, s.heap.size ≤ q → A q := fun q h => by rw [← hAe]; exact Or.inr h
  have hS : va_S A s.heap s.heap [] := va_S.rf
  have hl := lv_entry ([.long a1, .long a2] : List Value) (n := 4) (Nat.le_of_ble_eq_true rfl)
  rw [lg_entry_eq]
  generalize (lg_sl ([.long a1, .long a2] : List Value) ++ List.replicate (4 - (lg_sl ([.long a1, .long a2] : List Value)).length) Slot.unset).toArray = ls at hl ⊢
  have hl : lv_has ls 4 [(0, .long (a1)), (2, .long (a2))] := hl
  unfold f_N_down at hF
  obtain ⟨H, hHe⟩ : ∃ H, H = s.heap := ⟨_, rfl⟩
  obtain ⟨locs, hLe⟩ : ∃ L : List Loc, L = [] := ⟨_, rfl⟩
  rw [← hHe] at hP ⊢
  rw [← hLe]
  have hS : va_S A s.heap H locs := by rw [hHe, hLe]; exact hS
  refine lv_lload_n hx hb d_N_down_0 rfl (lv_at hl 0 rfl) ?_
  refine lv_lload_n hx hb d_N_down_1 rfl (lv_at hl 1 rfl) ?_
  obtain ⟨c1, hF⟩ := qs_nzl_some hF
  refine lv_ldiv hx hb d_N_down_2 c1 ?_
  refine lv_lload_n hx hb d_N_down_3 rfl (lv_at hl 0 rfl) ?_
  refine lv_lload_n hx hb d_N_down_4 rfl (lv_at hl 1 rfl) ?_
  obtain ⟨c2, hF⟩ := qs_nzl_some hF
  refine lv_lrem hx hb d_N_down_5 c2 ?_
  refine lv_lconst (v := 0) hx hb d_N_down_6 (by decide) ?_
  refine W.lcmp hx hb d_N_down_7 ?_
  refine lv_if_ge (tgt := 15) hx hb d_N_down_8 (by decide) (fun c3 => ?_) (fun c3 => ?_)
  · have hF := qs_pos c3 hF
    refine lv_iconst (v := 0) hx hb d_N_down_15 (by decide) ?_
    refine lv_i2l (v := (0 : Int32).toInt64) hx hb d_N_down_16 rfl ?_
    refine lv_lsub hx hb d_N_down_17 ?_
    have h9 := Option.some.inj hF
    exact W.lret (v := (a1 / a2) - ((0 : Int32).toInt64)) hx hb hr (fun t ht hW => ⟨⟨((a1 / a2) - ((0 : Int32).toInt64)), (), rfl, h9, trivial⟩, hS.F ht⟩) hS.2.2 d_N_down_18
  · have hF := qs_neg c3 hF
    refine lv_iconst (v := 1) hx hb d_N_down_11 (by decide) ?_
    refine lv_goto (tgt := 16) hx hb d_N_down_12 (by decide) ?_
    refine lv_i2l (v := (1 : Int32).toInt64) hx hb d_N_down_16 rfl ?_
    refine lv_lsub hx hb d_N_down_17 ?_
    have h9 := Option.some.inj hF
    exact W.lret (v := (a1 / a2) - ((1 : Int32).toInt64)) hx hb hr (fun t ht hW => ⟨⟨((a1 / a2) - ((1 : Int32).toInt64)), (), rfl, h9, trivial⟩, hS.F ht⟩) hS.2.2 d_N_down_18

theorem d_N_whole_0 : decode b_N_whole 0 = .ok (.lload_n 0, 1) := by decide +kernel
theorem d_N_whole_1 : decode b_N_whole 1 = .ok (.ldc2_w 59, 3) := by decide +kernel
theorem d_N_whole_4 : decode b_N_whole 4 = .ok (.invokestatic 61, 3) := by decide +kernel
theorem d_N_whole_7 : decode b_N_whole 7 = .ok (.l2i, 1) := by decide +kernel
theorem d_N_whole_8 : decode b_N_whole 8 = .ok (.ireturn, 1) := by decide +kernel
def f_N_whole (a1 : Int64) : Option Int32 := (qs_pb (f_N_down (a1) ((8 : Int64))) fun r1 => (some (r1.toInt32)))
set_option maxHeartbeats 4000000 in
set_option maxRecDepth 100000 in
theorem c_N_whole (l : Launch) (sz : Nat) (a1 : Int64) (r0 : Int32) (hF : f_N_whole a1 = some r0) : Met l y_N_whole (qs_ws y_N_whole b_N_whole 2 (some .int)) ({ frames := 1, cells := 0, slots := 0, locals := 23 } : Room) (va_Pc ([.long a1] : List Value) (fun U => U.heap.size = sz ∧ qs_N U)) (va_Qi (fun (r : Int32) (_ : Unit) => r = r0) (fun _ _ => True) (va_A [] sz)) 0 0 (va_A [] sz) := by
  refine Met.ofW (cc := b_N_whole) (maxL := 2) (ret := (some .int)) (by decide +kernel) rfl ?_
  intro p e s m args below meth cd s₁ B hml hv
  obtain ⟨rfl, hsz, hNs⟩ := hv
  have hx := B.exec
  have hb := B.bytes
  have hr := B.returns
  have hts := atoms_spec (ws := (qs_ws y_N_whole b_N_whole 2 (some .int))) B.pre
  have hg : ∀ w ∈ qs_gt, w.before _ s = true := fun w h => hts w (List.mem_cons_of_mem _ h)
  have hown : s.vm.findClass R_N = some m.cls := findClass_of_methodNamed B.named
  have hlocks := B.notSynchronized
  subst hsz
  have hD : va_D (va_A [] s.heap.size) [] := qs_D0
  have hP : va_P qs_G0 [] [] s.heap := qs_P0
  generalize hAe : va_A ([]) s.heap.size = A at hD ⊢
  have hA : ∀ q : Nat, s.heap.size ≤ q → A q := fun q h => by rw [← hAe]; exact Or.inr h
  have hS : va_S A s.heap s.heap [] := va_S.rf
  have hl := lv_entry ([.long a1] : List Value) (n := 2) (Nat.le_of_ble_eq_true rfl)
  rw [lg_entry_eq]
  generalize (lg_sl ([.long a1] : List Value) ++ List.replicate (2 - (lg_sl ([.long a1] : List Value)).length) Slot.unset).toArray = ls at hl ⊢
  have hl : lv_has ls 2 [(0, .long (a1))] := hl
  unfold f_N_whole at hF
  obtain ⟨H, hHe⟩ : ∃ H, H = s.heap := ⟨_, rfl⟩
  obtain ⟨locs, hLe⟩ : ∃ L : List Loc, L = [] := ⟨_, rfl⟩
  rw [← hHe] at hP ⊢
  rw [← hLe]
  have hS : va_S A s.heap H locs := by rw [hHe, hLe]; exact hS
  refine lv_lload_n hx hb d_N_whole_0 rfl (lv_at hl 0 rfl) ?_
  refine lv_ldc2 (v := 8) hx hb hown (hg _ t_701) d_N_whole_1 ?_
  obtain ⟨r1, hX, hF⟩ := qs_pb_some hF
  refine qs_psl (va_runS (own := "QuakeServerModel") (As := [.long (a1), .long ((8 : Int64))]) (rest := []) ⟨hx, hb, hml, hown, hg⟩ (c_N_down l H.size (a1) ((8 : Int64)) r1 hX) (va_cwS 2 hg (qs_gS t_776 t_777 t_8 t_778) rfl rfl rfl (by decide +kernel) ⟨Nat.le_of_ble_eq_true rfl, Nat.le_of_ble_eq_true rfl⟩) ⟨qs_blind0, fun U hU hW => ⟨rfl, by rw [hU], hNs.warm hW⟩⟩ rfl rfl hl.1 rfl (lv_room (Nat.le_of_ble_eq_true rfl)) d_N_whole_4 ⟨Nat.le_of_ble_eq_true rfl, Nat.le_of_ble_eq_true rfl⟩) hP hD hS hA (fun H locs hP hS => ?_)
  refine lv_l2i (v := r1.toInt32) hx hb d_N_whole_7 rfl ?_
  have h9 := Option.some.inj hF
  exact W.iret (v := r1.toInt32) hx hb hr (fun t ht hW => ⟨⟨(r1.toInt32), (), rfl, h9, trivial⟩, hS.F ht⟩) hS.2.2 d_N_whole_8

theorem d_N_fits_0 : decode b_N_fits 0 = .ok (.iload_n 0, 1) := by decide +kernel
theorem d_N_fits_1 : decode b_N_fits 1 = .ok (.iconst 1, 1) := by decide +kernel
theorem d_N_fits_2 : decode b_N_fits 2 = .ok (.bipush 9, 2) := by decide +kernel
theorem d_N_fits_4 : decode b_N_fits 4 = .ok (.invokestatic 65, 3) := by decide +kernel
theorem d_N_fits_7 : decode b_N_fits 7 = .ok (.ifCond .ne 15, 3) := by decide +kernel
theorem d_N_fits_10 : decode b_N_fits 10 = .ok (.iload_n 0, 1) := by decide +kernel
theorem d_N_fits_11 : decode b_N_fits 11 = .ok (.bipush 13, 2) := by decide +kernel
theorem d_N_fits_13 : decode b_N_fits 13 = .ok (.if_icmp .eq 9, 3) := by decide +kernel
theorem d_N_fits_16 : decode b_N_fits 16 = .ok (.iload_n 0, 1) := by decide +kernel
theorem d_N_fits_17 : decode b_N_fits 17 = .ok (.bipush 14, 2) := by decide +kernel
theorem d_N_fits_19 : decode b_N_fits 19 = .ok (.if_icmp .ne 7, 3) := by decide +kernel
theorem d_N_fits_22 : decode b_N_fits 22 = .ok (.iconst 1, 1) := by decide +kernel
theorem d_N_fits_23 : decode b_N_fits 23 = .ok (.goto 4, 3) := by decide +kernel
theorem d_N_fits_26 : decode b_N_fits 26 = .ok (.iconst 0, 1) := by decide +kernel
theorem d_N_fits_27 : decode b_N_fits 27 = .ok (.istore 4, 2) := by decide +kernel
theorem d_N_fits_29 : decode b_N_fits 29 = .ok (.iload_n 0, 1) := by decide +kernel
theorem d_N_fits_30 : decode b_N_fits 30 = .ok (.iconst 0, 1) := by decide +kernel
theorem d_N_fits_31 : decode b_N_fits 31 = .ok (.bipush 8, 2) := by decide +kernel
theorem d_N_fits_33 : decode b_N_fits 33 = .ok (.invokestatic 65, 3) := by decide +kernel
theorem d_N_fits_36 : decode b_N_fits 36 = .ok (.ifCond .ne 21, 3) := by decide +kernel
theorem d_N_fits_39 : decode b_N_fits 39 = .ok (.iload_n 0, 1) := by decide +kernel
theorem d_N_fits_40 : decode b_N_fits 40 = .ok (.bipush 12, 2) := by decide +kernel
theorem d_N_fits_42 : decode b_N_fits 42 = .ok (.if_icmp .eq 15, 3) := by decide +kernel
theorem d_N_fits_45 : decode b_N_fits 45 = .ok (.iload_n 0, 1) := by decide +kernel
theorem d_N_fits_46 : decode b_N_fits 46 = .ok (.bipush 14, 2) := by decide +kernel
theorem d_N_fits_48 : decode b_N_fits 48 = .ok (.if_icmp .eq 9, 3) := by decide +kernel
theorem d_N_fits_51 : decode b_N_fits 51 = .ok (.iload_n 0, 1) := by decide +kernel
theorem d_N_fits_52 : decode b_N_fits 52 = .ok (.bipush 15, 2) := by decide +kernel
theorem d_N_fits_54 : decode b_N_fits 54 = .ok (.if_icmp .ne 7, 3) := by decide +kernel
theorem d_N_fits_57 : decode b_N_fits 57 = .ok (.iconst 1, 1) := by decide +kernel
theorem d_N_fits_58 : decode b_N_fits 58 = .ok (.goto 4, 3) := by decide +kernel
theorem d_N_fits_61 : decode b_N_fits 61 = .ok (.iconst 0, 1) := by decide +kernel
theorem d_N_fits_62 : decode b_N_fits 62 = .ok (.istore 5, 2) := by decide +kernel
theorem d_N_fits_64 : decode b_N_fits 64 = .ok (.iload_n 0, 1) := by decide +kernel
theorem d_N_fits_65 : decode b_N_fits 65 = .ok (.iconst 0, 1) := by decide +kernel
theorem d_N_fits_66 : decode b_N_fits 66 = .ok (.bipush 16, 2) := by decide +kernel
theorem d_N_fits_68 : decode b_N_fits 68 = .ok (.invokestatic 65, 3) := by decide +kernel
theorem d_N_fits_71 : decode b_N_fits 71 = .ok (.ifCond .eq 52, 3) := by decide +kernel
theorem d_N_fits_74 : decode b_N_fits 74 = .ok (.iload 4, 2) := by decide +kernel
theorem d_N_fits_76 : decode b_N_fits 76 = .ok (.ifCond .eq 13, 3) := by decide +kernel
theorem d_N_fits_79 : decode b_N_fits 79 = .ok (.iload_n 1, 1) := by decide +kernel
theorem d_N_fits_80 : decode b_N_fits 80 = .ok (.iconst 0, 1) := by decide +kernel
theorem d_N_fits_81 : decode b_N_fits 81 = .ok (.bipush 23, 2) := by decide +kernel
theorem d_N_fits_83 : decode b_N_fits 83 = .ok (.invokestatic 65, 3) := by decide +kernel
theorem d_N_fits_86 : decode b_N_fits 86 = .ok (.ifCond .eq 37, 3) := by decide +kernel
theorem d_N_fits_89 : decode b_N_fits 89 = .ok (.iload 5, 2) := by decide +kernel
theorem d_N_fits_91 : decode b_N_fits 91 = .ok (.ifCond .eq 13, 3) := by decide +kernel
theorem d_N_fits_94 : decode b_N_fits 94 = .ok (.iload_n 3, 1) := by decide +kernel
theorem d_N_fits_95 : decode b_N_fits 95 = .ok (.iconst 0, 1) := by decide +kernel
theorem d_N_fits_96 : decode b_N_fits 96 = .ok (.bipush 23, 2) := by decide +kernel
theorem d_N_fits_98 : decode b_N_fits 98 = .ok (.invokestatic 65, 3) := by decide +kernel
theorem d_N_fits_101 : decode b_N_fits 101 = .ok (.ifCond .eq 22, 3) := by decide +kernel
theorem d_N_fits_104 : decode b_N_fits 104 = .ok (.iload_n 0, 1) := by decide +kernel
theorem d_N_fits_105 : decode b_N_fits 105 = .ok (.iconst 1, 1) := by decide +kernel
theorem d_N_fits_106 : decode b_N_fits 106 = .ok (.iconst 5, 1) := by decide +kernel
theorem d_N_fits_107 : decode b_N_fits 107 = .ok (.invokestatic 65, 3) := by decide +kernel
theorem d_N_fits_110 : decode b_N_fits 110 = .ok (.ifCond .eq 15, 3) := by decide +kernel
theorem d_N_fits_113 : decode b_N_fits 113 = .ok (.iload_n 2, 1) := by decide +kernel
theorem d_N_fits_114 : decode b_N_fits 114 = .ok (.iconst 0, 1) := by decide +kernel
theorem d_N_fits_115 : decode b_N_fits 115 = .ok (.bipush 23, 2) := by decide +kernel
theorem d_N_fits_117 : decode b_N_fits 117 = .ok (.invokestatic 65, 3) := by decide +kernel
theorem d_N_fits_120 : decode b_N_fits 120 = .ok (.ifCond .ne 5, 3) := by decide +kernel
theorem d_N_fits_123 : decode b_N_fits 123 = .ok (.iconst 0, 1) := by decide +kernel
theorem d_N_fits_124 : decode b_N_fits 124 = .ok (.ireturn, 1) := by decide +kernel
theorem d_N_fits_125 : decode b_N_fits 125 = .ok (.iload_n 0, 1) := by decide +kernel
theorem d_N_fits_126 : decode b_N_fits 126 = .ok (.ifCond .ne 14, 3) := by decide +kernel
theorem d_N_fits_129 : decode b_N_fits 129 = .ok (.iload_n 2, 1) := by decide +kernel
theorem d_N_fits_130 : decode b_N_fits 130 = .ok (.sipush (-16000), 3) := by decide +kernel
theorem d_N_fits_133 : decode b_N_fits 133 = .ok (.sipush 16000, 3) := by decide +kernel
theorem d_N_fits_136 : decode b_N_fits 136 = .ok (.invokestatic 65, 3) := by decide +kernel
theorem d_N_fits_139 : decode b_N_fits 139 = .ok (.ireturn, 1) := by decide +kernel
theorem d_N_fits_140 : decode b_N_fits 140 = .ok (.iload_n 0, 1) := by decide +kernel
theorem d_N_fits_141 : decode b_N_fits 141 = .ok (.bipush 7, 2) := by decide +kernel
theorem d_N_fits_143 : decode b_N_fits 143 = .ok (.if_icmp .eq 9, 3) := by decide +kernel
theorem d_N_fits_146 : decode b_N_fits 146 = .ok (.iload_n 0, 1) := by decide +kernel
theorem d_N_fits_147 : decode b_N_fits 147 = .ok (.bipush 8, 2) := by decide +kernel
theorem d_N_fits_149 : decode b_N_fits 149 = .ok (.if_icmp .ne 11, 3) := by decide +kernel
theorem d_N_fits_152 : decode b_N_fits 152 = .ok (.iload_n 2, 1) := by decide +kernel
theorem d_N_fits_153 : decode b_N_fits 153 = .ok (.iconst 0, 1) := by decide +kernel
theorem d_N_fits_154 : decode b_N_fits 154 = .ok (.bipush 15, 2) := by decide +kernel
theorem d_N_fits_156 : decode b_N_fits 156 = .ok (.invokestatic 65, 3) := by decide +kernel
theorem d_N_fits_159 : decode b_N_fits 159 = .ok (.ireturn, 1) := by decide +kernel
theorem d_N_fits_160 : decode b_N_fits 160 = .ok (.iload_n 0, 1) := by decide +kernel
theorem d_N_fits_161 : decode b_N_fits 161 = .ok (.bipush 9, 2) := by decide +kernel
theorem d_N_fits_163 : decode b_N_fits 163 = .ok (.if_icmp .eq 9, 3) := by decide +kernel
theorem d_N_fits_166 : decode b_N_fits 166 = .ok (.iload_n 0, 1) := by decide +kernel
theorem d_N_fits_167 : decode b_N_fits 167 = .ok (.bipush 10, 2) := by decide +kernel
theorem d_N_fits_169 : decode b_N_fits 169 = .ok (.if_icmp .ne 11, 3) := by decide +kernel
theorem d_N_fits_172 : decode b_N_fits 172 = .ok (.iload_n 2, 1) := by decide +kernel
theorem d_N_fits_173 : decode b_N_fits 173 = .ok (.iconst 0, 1) := by decide +kernel
theorem d_N_fits_174 : decode b_N_fits 174 = .ok (.bipush 13, 2) := by decide +kernel
theorem d_N_fits_176 : decode b_N_fits 176 = .ok (.invokestatic 65, 3) := by decide +kernel
theorem d_N_fits_179 : decode b_N_fits 179 = .ok (.ireturn, 1) := by decide +kernel
theorem d_N_fits_180 : decode b_N_fits 180 = .ok (.iload_n 0, 1) := by decide +kernel
theorem d_N_fits_181 : decode b_N_fits 181 = .ok (.bipush 11, 2) := by decide +kernel
theorem d_N_fits_183 : decode b_N_fits 183 = .ok (.if_icmp .ne 12, 3) := by decide +kernel
theorem d_N_fits_186 : decode b_N_fits 186 = .ok (.iload_n 1, 1) := by decide +kernel
theorem d_N_fits_187 : decode b_N_fits 187 = .ok (.iconst 0, 1) := by decide +kernel
theorem d_N_fits_188 : decode b_N_fits 188 = .ok (.iconst 5, 1) := by decide +kernel
theorem d_N_fits_189 : decode b_N_fits 189 = .ok (.invokestatic 65, 3) := by decide +kernel
theorem d_N_fits_192 : decode b_N_fits 192 = .ok (.ifCond .eq 7, 3) := by decide +kernel
theorem d_N_fits_195 : decode b_N_fits 195 = .ok (.iconst 1, 1) := by decide +kernel
theorem d_N_fits_196 : decode b_N_fits 196 = .ok (.goto 4, 3) := by decide +kernel
theorem d_N_fits_199 : decode b_N_fits 199 = .ok (.iconst 0, 1) := by decide +kernel
theorem d_N_fits_200 : decode b_N_fits 200 = .ok (.ireturn, 1) := by decide +kernel
def f_N_fits_152  (x2 : Int32) : Option Int32 := (qs_pb (f_N_in (x2) (0) (15)) fun r32 => (qs_bo (r32) (some (r32))))
def f_N_fits_172  (x2 : Int32) : Option Int32 := (qs_pb (f_N_in (x2) (0) (13)) fun r34 => (qs_bo (r34) (some (r34))))
def f_N_fits_125  (x0 : Int32) (x1 : Int32) (x2 : Int32) : Option Int32 := (if x0 = 0 then (qs_pb (f_N_in (x2) ((-16000)) (16000)) fun r30 => (qs_bo (r30) (some (r30)))) else (if x0 = 7 then (f_N_fits_152 (x2)) else (if x0 = 8 then (f_N_fits_152 (x2)) else (if x0 = 9 then (f_N_fits_172 (x2)) else (if x0 = 10 then (f_N_fits_172 (x2)) else (if x0 = 11 then (qs_pb (f_N_in (x1) (0) (5)) fun r28 => (if r28 = 0 then (some (0)) else (some (1)))) else (some (1))))))))
def f_N_fits_104  (x0 : Int32) (x1 : Int32) (x2 : Int32) : Option Int32 := (qs_pb (f_N_in (x0) (1) (5)) fun r18 => (if r18 = 0 then (f_N_fits_125 (x0) (x1) (x2)) else (qs_pb (f_N_in (x2) (0) (23)) fun r20 => (if r20 = 0 then (some (0)) else (f_N_fits_125 (x0) (x1) (x2))))))
def f_N_fits_89  (x0 : Int32) (x1 : Int32) (x2 : Int32) (x3 : Int32) (x5 : Int32) : Option Int32 := (if x5 = 0 then (f_N_fits_104 (x0) (x1) (x2)) else (qs_pb (f_N_in (x3) (0) (23)) fun r16 => (if r16 = 0 then (some (0)) else (f_N_fits_104 (x0) (x1) (x2)))))
def f_N_fits_62  (x0 : Int32) (x1 : Int32) (x2 : Int32) (x3 : Int32) (x4 : Int32) (y0 : Int32) : Option Int32 := (qs_pb (f_N_in (x0) (0) (16)) fun r10 => (if r10 = 0 then (some (0)) else (if x4 = 0 then (f_N_fits_89 (x0) (x1) (x2) (x3) (y0)) else (qs_pb (f_N_in (x1) (0) (23)) fun r13 => (if r13 = 0 then (some (0)) else (f_N_fits_89 (x0) (x1) (x2) (x3) (y0)))))))
def f_N_fits_57  (x0 : Int32) (x1 : Int32) (x2 : Int32) (x3 : Int32) (x4 : Int32) : Option Int32 := (f_N_fits_62 (x0) (x1) (x2) (x3) (x4) (1))
def f_N_fits_27  (x0 : Int32) (x1 : Int32) (x2 : Int32) (x3 : Int32) (y0 : Int32) : Option Int32 := (qs_pb (f_N_in (x0) (0) (8)) fun r5 => (if r5 = 0 then (if x0 = 12 then (f_N_fits_57 (x0) (x1) (x2) (x3) (y0)) else (if x0 = 14 then (f_N_fits_57 (x0) (x1) (x2) (x3) (y0)) else (if x0 = 15 then (f_N_fits_57 (x0) (x1) (x2) (x3) (y0)) else (f_N_fits_62 (x0) (x1) (x2) (x3) (y0) (0))))) else (f_N_fits_57 (x0) (x1) (x2) (x3) (y0))))
def f_N_fits_22  (x0 : Int32) (x1 : Int32) (x2 : Int32) (x3 : Int32) : Option Int32 := (f_N_fits_27 (x0) (x1) (x2) (x3) (1))
def f_N_fits (a1 : Int32) (a2 : Int32) (a3 : Int32) (a4 : Int32) : Option Int32 := (qs_pb (f_N_in (a1) (1) (9)) fun r1 => (if r1 = 0 then (if a1 = 13 then (f_N_fits_22 (a1) (a2) (a3) (a4)) else (if a1 = 14 then (f_N_fits_22 (a1) (a2) (a3) (a4)) else (f_N_fits_27 (a1) (a2) (a3) (a4) (0)))) else (f_N_fits_22 (a1) (a2) (a3) (a4))))
set_option maxHeartbeats 4000000 in
set_option maxRecDepth 100000 in
theorem c_N_fits (l : Launch) (sz : Nat) (a1 : Int32) (a2 : Int32) (a3 : Int32) (a4 : Int32) (r0 : Int32) (hF : f_N_fits a1 a2 a3 a4 = some r0) : Met l y_N_fits (qs_ws y_N_fits b_N_fits 6 (some .boolean)) ({ frames := 1, cells := 0, slots := 0, locals := 22 } : Room) (va_Pc ([.int a1, .int a2, .int a3, .int a4] : List Value) (fun U => U.heap.size = sz ∧ qs_N U)) (va_Qi (fun (r : Int32) (_ : Unit) => r = r0) (fun _ _ => True) (va_A [] sz)) 0 0 (va_A [] sz) := by
  refine Met.ofW (cc := b_N_fits) (maxL := 6) (ret := (some .boolean)) (by decide +kernel) rfl ?_
  intro p e s m args below meth cd s₁ B hml hv
  obtain ⟨rfl, hsz, hNs⟩ := hv
  have hx := B.exec
  have hb := B.bytes
  have hr := B.returns
  have hts := atoms_spec (ws := (qs_ws y_N_fits b_N_fits 6 (some .boolean))) B.pre
  have hg : ∀ w ∈ qs_gt, w.before _ s = true := fun w h => hts w (List.mem_cons_of_mem _ h)
  have hown : s.vm.findClass R_N = some m.cls := findClass_of_methodNamed B.named
  have hlocks := B.notSynchronized
  subst hsz
  have hD : va_D (va_A [] s.heap.size) [] := qs_D0
  have hP : va_P qs_G0 [] [] s.heap := qs_P0
  generalize hAe : va_A ([]) s.heap.size = A at hD ⊢
  have hA : ∀ q : Nat, s.heap.size ≤ q → A q := fun q h => by rw [← hAe]; exact Or.inr h
  have hS : va_S A s.heap s.heap [] := va_S.rf
  have kb_152 : ∀ (x2 : Int32) (H : Heap) (locs : List Loc) (ls : Array Slot), va_S A s.heap H locs → lv_has ls 6 [(2, .int (x2))] → f_N_fits_152  x2 = some r0 → W p l e (headSpec (qs_ws y_N_fits b_N_fits 6 (some .boolean)) ({ frames := 1, cells := 0, slots := 0, locals := 22 } : Room)).room s m ([.int a1, .int a2, .int a3, .int a4] : List Value).toArray below meth cd H locs 0 0 (MQ below (va_Qi (fun (r : Int32) (_ : Unit) => r = r0) (fun _ _ => True) A) ([.int a1, .int a2, .int a3, .int a4] : List Value).toArray s 0 0 A) (F0 m 152 ls []) := by
    intro x2 H locs ls hS hl hF
    have hP : va_P qs_G0 [] [] H := qs_P0
    unfold f_N_fits_152 at hF
    refine lv_iload_n hx hb d_N_fits_152 rfl (lv_at hl 0 rfl) ?_
    refine lv_iconst (v := 0) hx hb d_N_fits_153 (by decide) ?_
    refine lv_bipush (v := 15) hx hb d_N_fits_154 (by decide) ?_
    obtain ⟨r32, hX, hF⟩ := qs_pb_some hF
    refine qs_psi (va_runS (own := "QuakeServerModel") (As := [.int (x2), .int (0), .int (15)]) (rest := []) ⟨hx, hb, hml, hown, hg⟩ (c_N_in l H.size (x2) (0) (15) r32 hX) (va_cwS 3 hg (qs_gS t_694 t_695 t_8 t_696) rfl rfl rfl (by decide +kernel) ⟨Nat.le_of_ble_eq_true rfl, Nat.le_of_ble_eq_true rfl⟩) ⟨qs_blind0, fun U hU hW => ⟨rfl, by rw [hU], hNs.warm hW⟩⟩ rfl rfl hl.1 rfl (lv_room (Nat.le_of_ble_eq_true rfl)) d_N_fits_156 ⟨Nat.le_of_ble_eq_true rfl, Nat.le_of_ble_eq_true rfl⟩) hP hD hS hA (fun H locs hP hS => ?_)
    obtain ⟨c33, hF⟩ := qs_bo_some hF
    have h9 := Option.some.inj hF
    exact W.zret (ty := .boolean) (v := r32) hx hb hr c33 (fun t ht hW => ⟨⟨r32, (), rfl, h9, trivial⟩, hS.F ht⟩) hS.2.2 d_N_fits_159
  have kb_172 : ∀ (x2 : Int32) (H : Heap) (locs : List Loc) (ls : Array Slot), va_S A s.heap H locs → lv_has ls 6 [(2, .int (x2))] → f_N_fits_172  x2 = some r0 → W p l e (headSpec (qs_ws y_N_fits b_N_fits 6 (some .boolean)) ({ frames := 1, cells := 0, slots := 0, locals := 22 } : Room)).room s m ([.int a1, .int a2, .int a3, .int a4] : List Value).toArray below meth cd H locs 0 0 (MQ below (va_Qi (fun (r : Int32) (_ : Unit) => r = r0) (fun _ _ => True) A) ([.int a1, .int a2, .int a3, .int a4] : List Value).toArray s 0 0 A) (F0 m 172 ls []) := by
    intro x2 H locs ls hS hl hF
    have hP : va_P qs_G0 [] [] H := qs_P0
    unfold f_N_fits_172 at hF
    refine lv_iload_n hx hb d_N_fits_172 rfl (lv_at hl 0 rfl) ?_
    refine lv_iconst (v := 0) hx hb d_N_fits_173 (by decide) ?_
    refine lv_bipush (v := 13) hx hb d_N_fits_174 (by decide) ?_
    obtain ⟨r34, hX, hF⟩ := qs_pb_some hF
    refine qs_psi (va_runS (own := "QuakeServerModel") (As := [.int (x2), .int (0), .int (13)]) (rest := []) ⟨hx, hb, hml, hown, hg⟩ (c_N_in l H.size (x2) (0) (13) r34 hX) (va_cwS 3 hg (qs_gS t_694 t_695 t_8 t_696) rfl rfl rfl (by decide +kernel) ⟨Nat.le_of_ble_eq_true rfl, Nat.le_of_ble_eq_true rfl⟩) ⟨qs_blind0, fun U hU hW => ⟨rfl, by rw [hU], hNs.warm hW⟩⟩ rfl rfl hl.1 rfl (lv_room (Nat.le_of_ble_eq_true rfl)) d_N_fits_176 ⟨Nat.le_of_ble_eq_true rfl, Nat.le_of_ble_eq_true rfl⟩) hP hD hS hA (fun H locs hP hS => ?_)
    obtain ⟨c35, hF⟩ := qs_bo_some hF
    have h9 := Option.some.inj hF
    exact W.zret (ty := .boolean) (v := r34) hx hb hr c35 (fun t ht hW => ⟨⟨r34, (), rfl, h9, trivial⟩, hS.F ht⟩) hS.2.2 d_N_fits_179
  have kb_125 : ∀ (x0 : Int32) (x1 : Int32) (x2 : Int32) (H : Heap) (locs : List Loc) (ls : Array Slot), va_S A s.heap H locs → lv_has ls 6 [(0, .int (x0)), (1, .int (x1)), (2, .int (x2))] → f_N_fits_125  x0 x1 x2 = some r0 → W p l e (headSpec (qs_ws y_N_fits b_N_fits 6 (some .boolean)) ({ frames := 1, cells := 0, slots := 0, locals := 22 } : Room)).room s m ([.int a1, .int a2, .int a3, .int a4] : List Value).toArray below meth cd H locs 0 0 (MQ below (va_Qi (fun (r : Int32) (_ : Unit) => r = r0) (fun _ _ => True) A) ([.int a1, .int a2, .int a3, .int a4] : List Value).toArray s 0 0 A) (F0 m 125 ls []) := by
    intro x0 x1 x2 H locs ls hS hl hF
    have hP : va_P qs_G0 [] [] H := qs_P0
    unfold f_N_fits_125 at hF
    refine lv_iload_n hx hb d_N_fits_125 rfl (lv_at hl 0 rfl) ?_
    refine lv_if_ne (tgt := 140) hx hb d_N_fits_126 (by decide) (fun c22 => ?_) (fun c22 => ?_)
    · have hF := qs_neg c22 hF
      refine lv_iload_n hx hb d_N_fits_140 rfl (lv_at hl 0 rfl) ?_
      refine lv_bipush (v := 7) hx hb d_N_fits_141 (by decide) ?_
      refine lv_icmp_eq (tgt := 152) hx hb d_N_fits_143 (by decide) (fun c23 => ?_) (fun c23 => ?_)
      · have hF := qs_pos c23 hF
        exact kb_152 (x2) H locs ls hS (lv_sub hl [2] rfl) hF
      · have hF := qs_neg c23 hF
        refine lv_iload_n hx hb d_N_fits_146 rfl (lv_at hl 0 rfl) ?_
        refine lv_bipush (v := 8) hx hb d_N_fits_147 (by decide) ?_
        refine lv_icmp_ne (tgt := 160) hx hb d_N_fits_149 (by decide) (fun c24 => ?_) (fun c24 => ?_)
        · have hF := qs_neg c24 hF
          refine lv_iload_n hx hb d_N_fits_160 rfl (lv_at hl 0 rfl) ?_
          refine lv_bipush (v := 9) hx hb d_N_fits_161 (by decide) ?_
          refine lv_icmp_eq (tgt := 172) hx hb d_N_fits_163 (by decide) (fun c25 => ?_) (fun c25 => ?_)
          · have hF := qs_pos c25 hF
            exact kb_172 (x2) H locs ls hS (lv_sub hl [2] rfl) hF
          · have hF := qs_neg c25 hF
            refine lv_iload_n hx hb d_N_fits_166 rfl (lv_at hl 0 rfl) ?_
            refine lv_bipush (v := 10) hx hb d_N_fits_167 (by decide) ?_
            refine lv_icmp_ne (tgt := 180) hx hb d_N_fits_169 (by decide) (fun c26 => ?_) (fun c26 => ?_)
            · have hF := qs_neg c26 hF
              refine lv_iload_n hx hb d_N_fits_180 rfl (lv_at hl 0 rfl) ?_
              refine lv_bipush (v := 11) hx hb d_N_fits_181 (by decide) ?_
              refine lv_icmp_ne (tgt := 195) hx hb d_N_fits_183 (by decide) (fun c27 => ?_) (fun c27 => ?_)
              · have hF := qs_neg c27 hF
                refine lv_iconst (v := 1) hx hb d_N_fits_195 (by decide) ?_
                refine lv_goto (tgt := 200) hx hb d_N_fits_196 (by decide) ?_
                have h9 := Option.some.inj hF
                exact W.zret (ty := .boolean) (v := 1) hx hb hr rfl (fun t ht hW => ⟨⟨1, (), rfl, h9, trivial⟩, hS.F ht⟩) hS.2.2 d_N_fits_200
              · have hF := qs_pos c27 hF
                refine lv_iload_n hx hb d_N_fits_186 rfl (lv_at hl 1 rfl) ?_
                refine lv_iconst (v := 0) hx hb d_N_fits_187 (by decide) ?_
                refine lv_iconst (v := 5) hx hb d_N_fits_188 (by decide) ?_
                obtain ⟨r28, hX, hF⟩ := qs_pb_some hF
                refine qs_psi (va_runS (own := "QuakeServerModel") (As := [.int (x1), .int (0), .int (5)]) (rest := []) ⟨hx, hb, hml, hown, hg⟩ (c_N_in l H.size (x1) (0) (5) r28 hX) (va_cwS 3 hg (qs_gS t_694 t_695 t_8 t_696) rfl rfl rfl (by decide +kernel) ⟨Nat.le_of_ble_eq_true rfl, Nat.le_of_ble_eq_true rfl⟩) ⟨qs_blind0, fun U hU hW => ⟨rfl, by rw [hU], hNs.warm hW⟩⟩ rfl rfl hl.1 rfl (lv_room (Nat.le_of_ble_eq_true rfl)) d_N_fits_189 ⟨Nat.le_of_ble_eq_true rfl, Nat.le_of_ble_eq_true rfl⟩) hP hD hS hA (fun H locs hP hS => ?_)
                refine lv_if_eq (tgt := 199) hx hb d_N_fits_192 (by decide) (fun c29 => ?_) (fun c29 => ?_)
                · have hF := qs_pos c29 hF
                  refine lv_iconst (v := 0) hx hb d_N_fits_199 (by decide) ?_
                  have h9 := Option.some.inj hF
                  exact W.zret (ty := .boolean) (v := 0) hx hb hr rfl (fun t ht hW => ⟨⟨0, (), rfl, h9, trivial⟩, hS.F ht⟩) hS.2.2 d_N_fits_200
                · have hF := qs_neg c29 hF
                  refine lv_iconst (v := 1) hx hb d_N_fits_195 (by decide) ?_
                  refine lv_goto (tgt := 200) hx hb d_N_fits_196 (by decide) ?_
                  have h9 := Option.some.inj hF
                  exact W.zret (ty := .boolean) (v := 1) hx hb hr rfl (fun t ht hW => ⟨⟨1, (), rfl, h9, trivial⟩, hS.F ht⟩) hS.2.2 d_N_fits_200
            · have hF := qs_pos c26 hF
              exact kb_172 (x2) H locs ls hS (lv_sub hl [2] rfl) hF
        · have hF := qs_pos c24 hF
          exact kb_152 (x2) H locs ls hS (lv_sub hl [2] rfl) hF
    · have hF := qs_pos c22 hF
      refine lv_iload_n hx hb d_N_fits_129 rfl (lv_at hl 2 rfl) ?_
      refine lv_sipush (v := (-16000)) hx hb d_N_fits_130 (by decide) ?_
      refine lv_sipush (v := 16000) hx hb d_N_fits_133 (by decide) ?_
      obtain ⟨r30, hX, hF⟩ := qs_pb_some hF
      refine qs_psi (va_runS (own := "QuakeServerModel") (As := [.int (x2), .int ((-16000)), .int (16000)]) (rest := []) ⟨hx, hb, hml, hown, hg⟩ (c_N_in l H.size (x2) ((-16000)) (16000) r30 hX) (va_cwS 3 hg (qs_gS t_694 t_695 t_8 t_696) rfl rfl rfl (by decide +kernel) ⟨Nat.le_of_ble_eq_true rfl, Nat.le_of_ble_eq_true rfl⟩) ⟨qs_blind0, fun U hU hW => ⟨rfl, by rw [hU], hNs.warm hW⟩⟩ rfl rfl hl.1 rfl (lv_room (Nat.le_of_ble_eq_true rfl)) d_N_fits_136 ⟨Nat.le_of_ble_eq_true rfl, Nat.le_of_ble_eq_true rfl⟩) hP hD hS hA (fun H locs hP hS => ?_)
      obtain ⟨c31, hF⟩ := qs_bo_some hF
      have h9 := Option.some.inj hF
      exact W.zret (ty := .boolean) (v := r30) hx hb hr c31 (fun t ht hW => ⟨⟨r30, (), rfl, h9, trivial⟩, hS.F ht⟩) hS.2.2 d_N_fits_139
  have kb_104 : ∀ (x0 : Int32) (x1 : Int32) (x2 : Int32) (H : Heap) (locs : List Loc) (ls : Array Slot), va_S A s.heap H locs → lv_has ls 6 [(0, .int (x0)), (1, .int (x1)), (2, .int (x2))] → f_N_fits_104  x0 x1 x2 = some r0 → W p l e (headSpec (qs_ws y_N_fits b_N_fits 6 (some .boolean)) ({ frames := 1, cells := 0, slots := 0, locals := 22 } : Room)).room s m ([.int a1, .int a2, .int a3, .int a4] : List Value).toArray below meth cd H locs 0 0 (MQ below (va_Qi (fun (r : Int32) (_ : Unit) => r = r0) (fun _ _ => True) A) ([.int a1, .int a2, .int a3, .int a4] : List Value).toArray s 0 0 A) (F0 m 104 ls []) := by
    intro x0 x1 x2 H locs ls hS hl hF
    have hP : va_P qs_G0 [] [] H := qs_P0
    unfold f_N_fits_104 at hF
    refine lv_iload_n hx hb d_N_fits_104 rfl (lv_at hl 0 rfl) ?_
    refine lv_iconst (v := 1) hx hb d_N_fits_105 (by decide) ?_
    refine lv_iconst (v := 5) hx hb d_N_fits_106 (by decide) ?_
    obtain ⟨r18, hX, hF⟩ := qs_pb_some hF
    refine qs_psi (va_runS (own := "QuakeServerModel") (As := [.int (x0), .int (1), .int (5)]) (rest := []) ⟨hx, hb, hml, hown, hg⟩ (c_N_in l H.size (x0) (1) (5) r18 hX) (va_cwS 3 hg (qs_gS t_694 t_695 t_8 t_696) rfl rfl rfl (by decide +kernel) ⟨Nat.le_of_ble_eq_true rfl, Nat.le_of_ble_eq_true rfl⟩) ⟨qs_blind0, fun U hU hW => ⟨rfl, by rw [hU], hNs.warm hW⟩⟩ rfl rfl hl.1 rfl (lv_room (Nat.le_of_ble_eq_true rfl)) d_N_fits_107 ⟨Nat.le_of_ble_eq_true rfl, Nat.le_of_ble_eq_true rfl⟩) hP hD hS hA (fun H locs hP hS => ?_)
    refine lv_if_eq (tgt := 125) hx hb d_N_fits_110 (by decide) (fun c19 => ?_) (fun c19 => ?_)
    · have hF := qs_pos c19 hF
      exact kb_125 (x0) (x1) (x2) H locs ls hS (lv_sub hl [0, 1, 2] rfl) hF
    · have hF := qs_neg c19 hF
      refine lv_iload_n hx hb d_N_fits_113 rfl (lv_at hl 2 rfl) ?_
      refine lv_iconst (v := 0) hx hb d_N_fits_114 (by decide) ?_
      refine lv_bipush (v := 23) hx hb d_N_fits_115 (by decide) ?_
      obtain ⟨r20, hX, hF⟩ := qs_pb_some hF
      refine qs_psi (va_runS (own := "QuakeServerModel") (As := [.int (x2), .int (0), .int (23)]) (rest := []) ⟨hx, hb, hml, hown, hg⟩ (c_N_in l H.size (x2) (0) (23) r20 hX) (va_cwS 3 hg (qs_gS t_694 t_695 t_8 t_696) rfl rfl rfl (by decide +kernel) ⟨Nat.le_of_ble_eq_true rfl, Nat.le_of_ble_eq_true rfl⟩) ⟨qs_blind0, fun U hU hW => ⟨rfl, by rw [hU], hNs.warm hW⟩⟩ rfl rfl hl.1 rfl (lv_room (Nat.le_of_ble_eq_true rfl)) d_N_fits_117 ⟨Nat.le_of_ble_eq_true rfl, Nat.le_of_ble_eq_true rfl⟩) hP hD hS hA (fun H locs hP hS => ?_)
      refine lv_if_ne (tgt := 125) hx hb d_N_fits_120 (by decide) (fun c21 => ?_) (fun c21 => ?_)
      · have hF := qs_neg c21 hF
        exact kb_125 (x0) (x1) (x2) H locs ls hS (lv_sub hl [0, 1, 2] rfl) hF
      · have hF := qs_pos c21 hF
        refine lv_iconst (v := 0) hx hb d_N_fits_123 (by decide) ?_
        have h9 := Option.some.inj hF
        exact W.zret (ty := .boolean) (v := 0) hx hb hr rfl (fun t ht hW => ⟨⟨0, (), rfl, h9, trivial⟩, hS.F ht⟩) hS.2.2 d_N_fits_124
  have kb_89 : ∀ (x0 : Int32) (x1 : Int32) (x2 : Int32) (x3 : Int32) (x5 : Int32) (H : Heap) (locs : List Loc) (ls : Array Slot), va_S A s.heap H locs → lv_has ls 6 [(0, .int (x0)), (1, .int (x1)), (2, .int (x2)), (3, .int (x3)), (5, .int (x5))] → f_N_fits_89  x0 x1 x2 x3 x5 = some r0 → W p l e (headSpec (qs_ws y_N_fits b_N_fits 6 (some .boolean)) ({ frames := 1, cells := 0, slots := 0, locals := 22 } : Room)).room s m ([.int a1, .int a2, .int a3, .int a4] : List Value).toArray below meth cd H locs 0 0 (MQ below (va_Qi (fun (r : Int32) (_ : Unit) => r = r0) (fun _ _ => True) A) ([.int a1, .int a2, .int a3, .int a4] : List Value).toArray s 0 0 A) (F0 m 89 ls []) := by
    intro x0 x1 x2 x3 x5 H locs ls hS hl hF
    have hP : va_P qs_G0 [] [] H := qs_P0
    unfold f_N_fits_89 at hF
    refine lv_iload hx hb d_N_fits_89 (lv_at hl 4 rfl) ?_
    refine lv_if_eq (tgt := 104) hx hb d_N_fits_91 (by decide) (fun c15 => ?_) (fun c15 => ?_)
    · have hF := qs_pos c15 hF
      exact kb_104 (x0) (x1) (x2) H locs ls hS (lv_sub hl [0, 1, 2] rfl) hF
    · have hF := qs_neg c15 hF
      refine lv_iload_n hx hb d_N_fits_94 rfl (lv_at hl 3 rfl) ?_
      refine lv_iconst (v := 0) hx hb d_N_fits_95 (by decide) ?_
      refine lv_bipush (v := 23) hx hb d_N_fits_96 (by decide) ?_
      obtain ⟨r16, hX, hF⟩ := qs_pb_some hF
      refine qs_psi (va_runS (own := "QuakeServerModel") (As := [.int (x3), .int (0), .int (23)]) (rest := []) ⟨hx, hb, hml, hown, hg⟩ (c_N_in l H.size (x3) (0) (23) r16 hX) (va_cwS 3 hg (qs_gS t_694 t_695 t_8 t_696) rfl rfl rfl (by decide +kernel) ⟨Nat.le_of_ble_eq_true rfl, Nat.le_of_ble_eq_true rfl⟩) ⟨qs_blind0, fun U hU hW => ⟨rfl, by rw [hU], hNs.warm hW⟩⟩ rfl rfl hl.1 rfl (lv_room (Nat.le_of_ble_eq_true rfl)) d_N_fits_98 ⟨Nat.le_of_ble_eq_true rfl, Nat.le_of_ble_eq_true rfl⟩) hP hD hS hA (fun H locs hP hS => ?_)
      refine lv_if_eq (tgt := 123) hx hb d_N_fits_101 (by decide) (fun c17 => ?_) (fun c17 => ?_)
      · have hF := qs_pos c17 hF
        refine lv_iconst (v := 0) hx hb d_N_fits_123 (by decide) ?_
        have h9 := Option.some.inj hF
        exact W.zret (ty := .boolean) (v := 0) hx hb hr rfl (fun t ht hW => ⟨⟨0, (), rfl, h9, trivial⟩, hS.F ht⟩) hS.2.2 d_N_fits_124
      · have hF := qs_neg c17 hF
        exact kb_104 (x0) (x1) (x2) H locs ls hS (lv_sub hl [0, 1, 2] rfl) hF
  have kb_62 : ∀ (x0 : Int32) (x1 : Int32) (x2 : Int32) (x3 : Int32) (x4 : Int32) (y0 : Int32) (H : Heap) (locs : List Loc) (ls : Array Slot), va_S A s.heap H locs → lv_has ls 6 [(0, .int (x0)), (1, .int (x1)), (2, .int (x2)), (3, .int (x3)), (4, .int (x4))] → f_N_fits_62  x0 x1 x2 x3 x4 y0 = some r0 → W p l e (headSpec (qs_ws y_N_fits b_N_fits 6 (some .boolean)) ({ frames := 1, cells := 0, slots := 0, locals := 22 } : Room)).room s m ([.int a1, .int a2, .int a3, .int a4] : List Value).toArray below meth cd H locs 0 0 (MQ below (va_Qi (fun (r : Int32) (_ : Unit) => r = r0) (fun _ _ => True) A) ([.int a1, .int a2, .int a3, .int a4] : List Value).toArray s 0 0 A) (F0 m 62 ls [.int (y0)]) := by
    intro x0 x1 x2 x3 x4 y0 H locs ls hS hl hF
    have hP : va_P qs_G0 [] [] H := qs_P0
    unfold f_N_fits_62 at hF
    refine lv_istore (lv' := [(5, .int (y0)), (0, .int (x0)), (1, .int (x1)), (2, .int (x2)), (3, .int (x3)), (4, .int (x4))]) hx hb d_N_fits_62 hl (by decide) rfl (fun ls hl => ?_)
    refine lv_iload_n hx hb d_N_fits_64 rfl (lv_at hl 1 rfl) ?_
    refine lv_iconst (v := 0) hx hb d_N_fits_65 (by decide) ?_
    refine lv_bipush (v := 16) hx hb d_N_fits_66 (by decide) ?_
    obtain ⟨r10, hX, hF⟩ := qs_pb_some hF
    refine qs_psi (va_runS (own := "QuakeServerModel") (As := [.int (x0), .int (0), .int (16)]) (rest := []) ⟨hx, hb, hml, hown, hg⟩ (c_N_in l H.size (x0) (0) (16) r10 hX) (va_cwS 3 hg (qs_gS t_694 t_695 t_8 t_696) rfl rfl rfl (by decide +kernel) ⟨Nat.le_of_ble_eq_true rfl, Nat.le_of_ble_eq_true rfl⟩) ⟨qs_blind0, fun U hU hW => ⟨rfl, by rw [hU], hNs.warm hW⟩⟩ rfl rfl hl.1 rfl (lv_room (Nat.le_of_ble_eq_true rfl)) d_N_fits_68 ⟨Nat.le_of_ble_eq_true rfl, Nat.le_of_ble_eq_true rfl⟩) hP hD hS hA (fun H locs hP hS => ?_)
    refine lv_if_eq (tgt := 123) hx hb d_N_fits_71 (by decide) (fun c11 => ?_) (fun c11 => ?_)
    · have hF := qs_pos c11 hF
      refine lv_iconst (v := 0) hx hb d_N_fits_123 (by decide) ?_
      have h9 := Option.some.inj hF
      exact W.zret (ty := .boolean) (v := 0) hx hb hr rfl (fun t ht hW => ⟨⟨0, (), rfl, h9, trivial⟩, hS.F ht⟩) hS.2.2 d_N_fits_124
    · have hF := qs_neg c11 hF
      refine lv_iload hx hb d_N_fits_74 (lv_at hl 5 rfl) ?_
      refine lv_if_eq (tgt := 89) hx hb d_N_fits_76 (by decide) (fun c12 => ?_) (fun c12 => ?_)
      · have hF := qs_pos c12 hF
        exact kb_89 (x0) (x1) (x2) (x3) (y0) H locs ls hS (lv_sub hl [1, 2, 3, 4, 0] rfl) hF
      · have hF := qs_neg c12 hF
        refine lv_iload_n hx hb d_N_fits_79 rfl (lv_at hl 2 rfl) ?_
        refine lv_iconst (v := 0) hx hb d_N_fits_80 (by decide) ?_
        refine lv_bipush (v := 23) hx hb d_N_fits_81 (by decide) ?_
        obtain ⟨r13, hX, hF⟩ := qs_pb_some hF
        refine qs_psi (va_runS (own := "QuakeServerModel") (As := [.int (x1), .int (0), .int (23)]) (rest := []) ⟨hx, hb, hml, hown, hg⟩ (c_N_in l H.size (x1) (0) (23) r13 hX) (va_cwS 3 hg (qs_gS t_694 t_695 t_8 t_696) rfl rfl rfl (by decide +kernel) ⟨Nat.le_of_ble_eq_true rfl, Nat.le_of_ble_eq_true rfl⟩) ⟨qs_blind0, fun U hU hW => ⟨rfl, by rw [hU], hNs.warm hW⟩⟩ rfl rfl hl.1 rfl (lv_room (Nat.le_of_ble_eq_true rfl)) d_N_fits_83 ⟨Nat.le_of_ble_eq_true rfl, Nat.le_of_ble_eq_true rfl⟩) hP hD hS hA (fun H locs hP hS => ?_)
        refine lv_if_eq (tgt := 123) hx hb d_N_fits_86 (by decide) (fun c14 => ?_) (fun c14 => ?_)
        · have hF := qs_pos c14 hF
          refine lv_iconst (v := 0) hx hb d_N_fits_123 (by decide) ?_
          have h9 := Option.some.inj hF
          exact W.zret (ty := .boolean) (v := 0) hx hb hr rfl (fun t ht hW => ⟨⟨0, (), rfl, h9, trivial⟩, hS.F ht⟩) hS.2.2 d_N_fits_124
        · have hF := qs_neg c14 hF
          exact kb_89 (x0) (x1) (x2) (x3) (y0) H locs ls hS (lv_sub hl [1, 2, 3, 4, 0] rfl) hF
  have kb_57 : ∀ (x0 : Int32) (x1 : Int32) (x2 : Int32) (x3 : Int32) (x4 : Int32) (H : Heap) (locs : List Loc) (ls : Array Slot), va_S A s.heap H locs → lv_has ls 6 [(0, .int (x0)), (1, .int (x1)), (2, .int (x2)), (3, .int (x3)), (4, .int (x4))] → f_N_fits_57  x0 x1 x2 x3 x4 = some r0 → W p l e (headSpec (qs_ws y_N_fits b_N_fits 6 (some .boolean)) ({ frames := 1, cells := 0, slots := 0, locals := 22 } : Room)).room s m ([.int a1, .int a2, .int a3, .int a4] : List Value).toArray below meth cd H locs 0 0 (MQ below (va_Qi (fun (r : Int32) (_ : Unit) => r = r0) (fun _ _ => True) A) ([.int a1, .int a2, .int a3, .int a4] : List Value).toArray s 0 0 A) (F0 m 57 ls []) := by
    intro x0 x1 x2 x3 x4 H locs ls hS hl hF
    have hP : va_P qs_G0 [] [] H := qs_P0
    unfold f_N_fits_57 at hF
    refine lv_iconst (v := 1) hx hb d_N_fits_57 (by decide) ?_
    refine lv_goto (tgt := 62) hx hb d_N_fits_58 (by decide) ?_
    exact kb_62 (x0) (x1) (x2) (x3) (x4) (1) H locs ls hS (lv_sub hl [0, 1, 2, 3, 4] rfl) hF
  have kb_27 : ∀ (x0 : Int32) (x1 : Int32) (x2 : Int32) (x3 : Int32) (y0 : Int32) (H : Heap) (locs : List Loc) (ls : Array Slot), va_S A s.heap H locs → lv_has ls 6 [(0, .int (x0)), (1, .int (x1)), (2, .int (x2)), (3, .int (x3))] → f_N_fits_27  x0 x1 x2 x3 y0 = some r0 → W p l e (headSpec (qs_ws y_N_fits b_N_fits 6 (some .boolean)) ({ frames := 1, cells := 0, slots := 0, locals := 22 } : Room)).room s m ([.int a1, .int a2, .int a3, .int a4] : List Value).toArray below meth cd H locs 0 0 (MQ below (va_Qi (fun (r : Int32) (_ : Unit) => r = r0) (fun _ _ => True) A) ([.int a1, .int a2, .int a3, .int a4] : List Value).toArray s 0 0 A) (F0 m 27 ls [.int (y0)]) := by
    intro x0 x1 x2 x3 y0 H locs ls hS hl hF
    have hP : va_P qs_G0 [] [] H := qs_P0
    unfold f_N_fits_27 at hF
    refine lv_istore (lv' := [(4, .int (y0)), (0, .int (x0)), (1, .int (x1)), (2, .int (x2)), (3, .int (x3))]) hx hb d_N_fits_27 hl (by decide) rfl (fun ls hl => ?_)
    refine lv_iload_n hx hb d_N_fits_29 rfl (lv_at hl 1 rfl) ?_
    refine lv_iconst (v := 0) hx hb d_N_fits_30 (by decide) ?_
    refine lv_bipush (v := 8) hx hb d_N_fits_31 (by decide) ?_
    obtain ⟨r5, hX, hF⟩ := qs_pb_some hF
    refine qs_psi (va_runS (own := "QuakeServerModel") (As := [.int (x0), .int (0), .int (8)]) (rest := []) ⟨hx, hb, hml, hown, hg⟩ (c_N_in l H.size (x0) (0) (8) r5 hX) (va_cwS 3 hg (qs_gS t_694 t_695 t_8 t_696) rfl rfl rfl (by decide +kernel) ⟨Nat.le_of_ble_eq_true rfl, Nat.le_of_ble_eq_true rfl⟩) ⟨qs_blind0, fun U hU hW => ⟨rfl, by rw [hU], hNs.warm hW⟩⟩ rfl rfl hl.1 rfl (lv_room (Nat.le_of_ble_eq_true rfl)) d_N_fits_33 ⟨Nat.le_of_ble_eq_true rfl, Nat.le_of_ble_eq_true rfl⟩) hP hD hS hA (fun H locs hP hS => ?_)
    refine lv_if_ne (tgt := 57) hx hb d_N_fits_36 (by decide) (fun c6 => ?_) (fun c6 => ?_)
    · have hF := qs_neg c6 hF
      exact kb_57 (x0) (x1) (x2) (x3) (y0) H locs ls hS (lv_sub hl [1, 2, 3, 4, 0] rfl) hF
    · have hF := qs_pos c6 hF
      refine lv_iload_n hx hb d_N_fits_39 rfl (lv_at hl 1 rfl) ?_
      refine lv_bipush (v := 12) hx hb d_N_fits_40 (by decide) ?_
      refine lv_icmp_eq (tgt := 57) hx hb d_N_fits_42 (by decide) (fun c7 => ?_) (fun c7 => ?_)
      · have hF := qs_pos c7 hF
        exact kb_57 (x0) (x1) (x2) (x3) (y0) H locs ls hS (lv_sub hl [1, 2, 3, 4, 0] rfl) hF
      · have hF := qs_neg c7 hF
        refine lv_iload_n hx hb d_N_fits_45 rfl (lv_at hl 1 rfl) ?_
        refine lv_bipush (v := 14) hx hb d_N_fits_46 (by decide) ?_
        refine lv_icmp_eq (tgt := 57) hx hb d_N_fits_48 (by decide) (fun c8 => ?_) (fun c8 => ?_)
        · have hF := qs_pos c8 hF
          exact kb_57 (x0) (x1) (x2) (x3) (y0) H locs ls hS (lv_sub hl [1, 2, 3, 4, 0] rfl) hF
        · have hF := qs_neg c8 hF
          refine lv_iload_n hx hb d_N_fits_51 rfl (lv_at hl 1 rfl) ?_
          refine lv_bipush (v := 15) hx hb d_N_fits_52 (by decide) ?_
          refine lv_icmp_ne (tgt := 61) hx hb d_N_fits_54 (by decide) (fun c9 => ?_) (fun c9 => ?_)
          · have hF := qs_neg c9 hF
            refine lv_iconst (v := 0) hx hb d_N_fits_61 (by decide) ?_
            exact kb_62 (x0) (x1) (x2) (x3) (y0) (0) H locs ls hS (lv_sub hl [1, 2, 3, 4, 0] rfl) hF
          · have hF := qs_pos c9 hF
            exact kb_57 (x0) (x1) (x2) (x3) (y0) H locs ls hS (lv_sub hl [1, 2, 3, 4, 0] rfl) hF
  have kb_22 : ∀ (x0 : Int32) (x1 : Int32) (x2 : Int32) (x3 : Int32) (H : Heap) (locs : List Loc) (ls : Array Slot), va_S A s.heap H locs → lv_has ls 6 [(0, .int (x0)), (1, .int (x1)), (2, .int (x2)), (3, .int (x3))] → f_N_fits_22  x0 x1 x2 x3 = some r0 → W p l e (headSpec (qs_ws y_N_fits b_N_fits 6 (some .boolean)) ({ frames := 1, cells := 0, slots := 0, locals := 22 } : Room)).room s m ([.int a1, .int a2, .int a3, .int a4] : List Value).toArray below meth cd H locs 0 0 (MQ below (va_Qi (fun (r : Int32) (_ : Unit) => r = r0) (fun _ _ => True) A) ([.int a1, .int a2, .int a3, .int a4] : List Value).toArray s 0 0 A) (F0 m 22 ls []) := by
    intro x0 x1 x2 x3 H locs ls hS hl hF
    have hP : va_P qs_G0 [] [] H := qs_P0
    unfold f_N_fits_22 at hF
    refine lv_iconst (v := 1) hx hb d_N_fits_22 (by decide) ?_
    refine lv_goto (tgt := 27) hx hb d_N_fits_23 (by decide) ?_
    exact kb_27 (x0) (x1) (x2) (x3) (1) H locs ls hS (lv_sub hl [0, 1, 2, 3] rfl) hF
  have hl := lv_entry ([.int a1, .int a2, .int a3, .int a4] : List Value) (n := 6) (Nat.le_of_ble_eq_true rfl)
  rw [lg_entry_eq]
  generalize (lg_sl ([.int a1, .int a2, .int a3, .int a4] : List Value) ++ List.replicate (6 - (lg_sl ([.int a1, .int a2, .int a3, .int a4] : List Value)).length) Slot.unset).toArray = ls at hl ⊢
  have hl : lv_has ls 6 [(0, .int (a1)), (1, .int (a2)), (2, .int (a3)), (3, .int (a4))] := hl
  unfold f_N_fits at hF
  obtain ⟨H, hHe⟩ : ∃ H, H = s.heap := ⟨_, rfl⟩
  obtain ⟨locs, hLe⟩ : ∃ L : List Loc, L = [] := ⟨_, rfl⟩
  rw [← hHe] at hP ⊢
  rw [← hLe]
  have hS : va_S A s.heap H locs := by rw [hHe, hLe]; exact hS
  refine lv_iload_n hx hb d_N_fits_0 rfl (lv_at hl 0 rfl) ?_
  refine lv_iconst (v := 1) hx hb d_N_fits_1 (by decide) ?_
  refine lv_bipush (v := 9) hx hb d_N_fits_2 (by decide) ?_
  obtain ⟨r1, hX, hF⟩ := qs_pb_some hF
  refine qs_psi (va_runS (own := "QuakeServerModel") (As := [.int (a1), .int (1), .int (9)]) (rest := []) ⟨hx, hb, hml, hown, hg⟩ (c_N_in l H.size (a1) (1) (9) r1 hX) (va_cwS 3 hg (qs_gS t_694 t_695 t_8 t_696) rfl rfl rfl (by decide +kernel) ⟨Nat.le_of_ble_eq_true rfl, Nat.le_of_ble_eq_true rfl⟩) ⟨qs_blind0, fun U hU hW => ⟨rfl, by rw [hU], hNs.warm hW⟩⟩ rfl rfl hl.1 rfl (lv_room (Nat.le_of_ble_eq_true rfl)) d_N_fits_4 ⟨Nat.le_of_ble_eq_true rfl, Nat.le_of_ble_eq_true rfl⟩) hP hD hS hA (fun H locs hP hS => ?_)
  refine lv_if_ne (tgt := 22) hx hb d_N_fits_7 (by decide) (fun c2 => ?_) (fun c2 => ?_)
  · have hF := qs_neg c2 hF
    exact kb_22 (a1) (a2) (a3) (a4) H locs ls hS (lv_sub hl [0, 1, 2, 3] rfl) hF
  · have hF := qs_pos c2 hF
    refine lv_iload_n hx hb d_N_fits_10 rfl (lv_at hl 0 rfl) ?_
    refine lv_bipush (v := 13) hx hb d_N_fits_11 (by decide) ?_
    refine lv_icmp_eq (tgt := 22) hx hb d_N_fits_13 (by decide) (fun c3 => ?_) (fun c3 => ?_)
    · have hF := qs_pos c3 hF
      exact kb_22 (a1) (a2) (a3) (a4) H locs ls hS (lv_sub hl [0, 1, 2, 3] rfl) hF
    · have hF := qs_neg c3 hF
      refine lv_iload_n hx hb d_N_fits_16 rfl (lv_at hl 0 rfl) ?_
      refine lv_bipush (v := 14) hx hb d_N_fits_17 (by decide) ?_
      refine lv_icmp_ne (tgt := 26) hx hb d_N_fits_19 (by decide) (fun c4 => ?_) (fun c4 => ?_)
      · have hF := qs_neg c4 hF
        refine lv_iconst (v := 0) hx hb d_N_fits_26 (by decide) ?_
        exact kb_27 (a1) (a2) (a3) (a4) (0) H locs ls hS (lv_sub hl [0, 1, 2, 3] rfl) hF
      · have hF := qs_pos c4 hF
        exact kb_22 (a1) (a2) (a3) (a4) H locs ls hS (lv_sub hl [0, 1, 2, 3] rfl) hF

theorem d_N_number_0 : decode b_N_number 0 = .ok (.dload_n 0, 1) := by decide +kernel
theorem d_N_number_1 : decode b_N_number 1 = .ok (.ldc2_w 80, 3) := by decide +kernel
theorem d_N_number_4 : decode b_N_number 4 = .ok (.dcmp .l, 1) := by decide +kernel
theorem d_N_number_5 : decode b_N_number 5 = .ok (.ifCond .lt 15, 3) := by decide +kernel
theorem d_N_number_8 : decode b_N_number 8 = .ok (.dload_n 0, 1) := by decide +kernel
theorem d_N_number_9 : decode b_N_number 9 = .ok (.ldc2_w 82, 3) := by decide +kernel
theorem d_N_number_12 : decode b_N_number 12 = .ok (.dcmp .g, 1) := by decide +kernel
theorem d_N_number_13 : decode b_N_number 13 = .ok (.ifCond .gt 7, 3) := by decide +kernel
theorem d_N_number_16 : decode b_N_number 16 = .ok (.iconst 1, 1) := by decide +kernel
theorem d_N_number_17 : decode b_N_number 17 = .ok (.goto 4, 3) := by decide +kernel
theorem d_N_number_20 : decode b_N_number 20 = .ok (.iconst 0, 1) := by decide +kernel
theorem d_N_number_21 : decode b_N_number 21 = .ok (.ireturn, 1) := by decide +kernel
def f_N_number (a1 : UInt64) : Option Int32 := (if (Op.cmpValue (FP.dcmp a1 (13893604850437980160 : UInt64)) .l) < 0 then (some (0)) else (if 0 < (Op.cmpValue (FP.dcmp a1 (4670232813583204352 : UInt64)) .g) then (some (0)) else (some (1))))
set_option maxHeartbeats 4000000 in
set_option maxRecDepth 100000 in
theorem c_N_number (l : Launch) (sz : Nat) (a1 : UInt64) (r0 : Int32) (hF : f_N_number a1 = some r0) : Met l y_N_number (qs_ws y_N_number b_N_number 2 (some .boolean)) ({ frames := 0, cells := 0, slots := 0, locals := 0 } : Room) (va_Pc ([.double a1] : List Value) (fun U => U.heap.size = sz ∧ qs_N U)) (va_Qi (fun (r : Int32) (_ : Unit) => r = r0) (fun _ _ => True) (va_A [] sz)) 0 0 (va_A [] sz) := by
  refine Met.ofW (cc := b_N_number) (maxL := 2) (ret := (some .boolean)) (by decide +kernel) rfl ?_
  intro p e s m args below meth cd s₁ B hml hv
  obtain ⟨rfl, hsz, hNs⟩ := hv
  have hx := B.exec
  have hb := B.bytes
  have hr := B.returns
  have hts := atoms_spec (ws := (qs_ws y_N_number b_N_number 2 (some .boolean))) B.pre
  have hg : ∀ w ∈ qs_gt, w.before _ s = true := fun w h => hts w (List.mem_cons_of_mem _ h)
  have hown : s.vm.findClass R_N = some m.cls := findClass_of_methodNamed B.named
  have hlocks := B.notSynchronized
  subst hsz
  have hD : va_D (va_A [] s.heap.size) [] := qs_D0
  have hP : va_P qs_G0 [] [] s.heap := qs_P0
  generalize hAe : va_A ([]) s.heap.size = A at hD ⊢
  have hA : ∀ q : Nat, s.heap.size ≤ q → A q := fun q h => by rw [← hAe]; exact Or.inr h
  have hS : va_S A s.heap s.heap [] := va_S.rf
  have hl := lv_entry ([.double a1] : List Value) (n := 2) (Nat.le_of_ble_eq_true rfl)
  rw [lg_entry_eq]
  generalize (lg_sl ([.double a1] : List Value) ++ List.replicate (2 - (lg_sl ([.double a1] : List Value)).length) Slot.unset).toArray = ls at hl ⊢
  have hl : lv_has ls 2 [(0, .double (a1))] := hl
  unfold f_N_number at hF
  obtain ⟨H, hHe⟩ : ∃ H, H = s.heap := ⟨_, rfl⟩
  obtain ⟨locs, hLe⟩ : ∃ L : List Loc, L = [] := ⟨_, rfl⟩
  rw [← hHe] at hP ⊢
  rw [← hLe]
  have hS : va_S A s.heap H locs := by rw [hHe, hLe]; exact hS
  refine lv_dload_n hx hb d_N_number_0 rfl (lv_at hl 0 rfl) ?_
  refine lv_ldc2d (v := 13893604850437980160) hx hb hown (hg _ t_716) d_N_number_1 ?_
  refine lv_dcmp hx hb d_N_number_4 ?_
  refine lv_if_lt (tgt := 20) hx hb d_N_number_5 (by decide) (fun c1 => ?_) (fun c1 => ?_)
  · have hF := qs_pos c1 hF
    refine lv_iconst (v := 0) hx hb d_N_number_20 (by decide) ?_
    have h9 := Option.some.inj hF
    exact W.zret (ty := .boolean) (v := 0) hx hb hr rfl (fun t ht hW => ⟨⟨0, (), rfl, h9, trivial⟩, hS.F ht⟩) hS.2.2 d_N_number_21
  · have hF := qs_neg c1 hF
    refine lv_dload_n hx hb d_N_number_8 rfl (lv_at hl 0 rfl) ?_
    refine lv_ldc2d (v := 4670232813583204352) hx hb hown (hg _ t_717) d_N_number_9 ?_
    refine lv_dcmp hx hb d_N_number_12 ?_
    refine lv_if_gt (tgt := 20) hx hb d_N_number_13 (by decide) (fun c2 => ?_) (fun c2 => ?_)
    · have hF := qs_pos c2 hF
      refine lv_iconst (v := 0) hx hb d_N_number_20 (by decide) ?_
      have h9 := Option.some.inj hF
      exact W.zret (ty := .boolean) (v := 0) hx hb hr rfl (fun t ht hW => ⟨⟨0, (), rfl, h9, trivial⟩, hS.F ht⟩) hS.2.2 d_N_number_21
    · have hF := qs_neg c2 hF
      refine lv_iconst (v := 1) hx hb d_N_number_16 (by decide) ?_
      refine lv_goto (tgt := 21) hx hb d_N_number_17 (by decide) ?_
      have h9 := Option.some.inj hF
      exact W.zret (ty := .boolean) (v := 1) hx hb hr rfl (fun t ht hW => ⟨⟨1, (), rfl, h9, trivial⟩, hS.F ht⟩) hS.2.2 d_N_number_21

theorem d_N_eighths_0 : decode b_N_eighths 0 = .ok (.dload_n 0, 1) := by decide +kernel
theorem d_N_eighths_1 : decode b_N_eighths 1 = .ok (.ldc2_w 84, 3) := by decide +kernel
theorem d_N_eighths_4 : decode b_N_eighths 4 = .ok (.dmul, 1) := by decide +kernel
theorem d_N_eighths_5 : decode b_N_eighths 5 = .ok (.d2l, 1) := by decide +kernel
theorem d_N_eighths_6 : decode b_N_eighths 6 = .ok (.lreturn, 1) := by decide +kernel
def f_N_eighths (a1 : UInt64) : Option Int64 := (qs_nan (FP.dmul a1 (4620693217682128896 : UInt64)) (some (FP.d2l (FP.dmul a1 (4620693217682128896 : UInt64)))))
set_option maxHeartbeats 4000000 in
set_option maxRecDepth 100000 in
theorem c_N_eighths (l : Launch) (sz : Nat) (a1 : UInt64) (r0 : Int64) (hF : f_N_eighths a1 = some r0) : Met l y_N_eighths (qs_ws y_N_eighths b_N_eighths 2 (some .long)) ({ frames := 0, cells := 0, slots := 0, locals := 0 } : Room) (va_Pc ([.double a1] : List Value) (fun U => U.heap.size = sz ∧ qs_N U)) (va_Ql (fun (r : Int64) (_ : Unit) => r = r0) (fun _ _ => True) (va_A [] sz)) 0 0 (va_A [] sz) := by
  refine Met.ofW (cc := b_N_eighths) (maxL := 2) (ret := (some .long)) (by decide +kernel) rfl ?_
  intro p e s m args below meth cd s₁ B hml hv
  obtain ⟨rfl, hsz, hNs⟩ := hv
  have hx := B.exec
  have hb := B.bytes
  have hr := B.returns
  have hts := atoms_spec (ws := (qs_ws y_N_eighths b_N_eighths 2 (some .long))) B.pre
  have hg : ∀ w ∈ qs_gt, w.before _ s = true := fun w h => hts w (List.mem_cons_of_mem _ h)
  have hown : s.vm.findClass R_N = some m.cls := findClass_of_methodNamed B.named
  have hlocks := B.notSynchronized
  subst hsz
  have hD : va_D (va_A [] s.heap.size) [] := qs_D0
  have hP : va_P qs_G0 [] [] s.heap := qs_P0
  generalize hAe : va_A ([]) s.heap.size = A at hD ⊢
  have hA : ∀ q : Nat, s.heap.size ≤ q → A q := fun q h => by rw [← hAe]; exact Or.inr h
  have hS : va_S A s.heap s.heap [] := va_S.rf
  have hl := lv_entry ([.double a1] : List Value) (n := 2) (Nat.le_of_ble_eq_true rfl)
  rw [lg_entry_eq]
  generalize (lg_sl ([.double a1] : List Value) ++ List.replicate (2 - (lg_sl ([.double a1] : List Value)).length) Slot.unset).toArray = ls at hl ⊢
  have hl : lv_has ls 2 [(0, .double (a1))] := hl
  unfold f_N_eighths at hF
  obtain ⟨H, hHe⟩ : ∃ H, H = s.heap := ⟨_, rfl⟩
  obtain ⟨locs, hLe⟩ : ∃ L : List Loc, L = [] := ⟨_, rfl⟩
  rw [← hHe] at hP ⊢
  rw [← hLe]
  have hS : va_S A s.heap H locs := by rw [hHe, hLe]; exact hS
  refine lv_dload_n hx hb d_N_eighths_0 rfl (lv_at hl 0 rfl) ?_
  refine lv_ldc2d (v := 4620693217682128896) hx hb hown (hg _ t_725) d_N_eighths_1 ?_
  obtain ⟨c1, hF⟩ := qs_nan_some hF
  refine lv_dmul hx hb d_N_eighths_4 c1 ?_
  refine lv_d2l hx hb d_N_eighths_5 ?_
  have h9 := Option.some.inj hF
  exact W.lret (v := FP.d2l (FP.dmul a1 (4620693217682128896 : UInt64))) hx hb hr (fun t ht hW => ⟨⟨(FP.d2l (FP.dmul a1 (4620693217682128896 : UInt64))), (), rfl, h9, trivial⟩, hS.F ht⟩) hS.2.2 d_N_eighths_6

theorem d_N_overlap_0 : decode b_N_overlap 0 = .ok (.lload_n 0, 1) := by decide +kernel
theorem d_N_overlap_1 : decode b_N_overlap 1 = .ok (.lload 6, 2) := by decide +kernel
theorem d_N_overlap_3 : decode b_N_overlap 3 = .ok (.lcmp, 1) := by decide +kernel
theorem d_N_overlap_4 : decode b_N_overlap 4 = .ok (.ifCond .ge 14, 3) := by decide +kernel
theorem d_N_overlap_7 : decode b_N_overlap 7 = .ok (.lload 4, 2) := by decide +kernel
theorem d_N_overlap_9 : decode b_N_overlap 9 = .ok (.lload_n 2, 1) := by decide +kernel
theorem d_N_overlap_10 : decode b_N_overlap 10 = .ok (.lcmp, 1) := by decide +kernel
theorem d_N_overlap_11 : decode b_N_overlap 11 = .ok (.ifCond .ge 7, 3) := by decide +kernel
theorem d_N_overlap_14 : decode b_N_overlap 14 = .ok (.iconst 1, 1) := by decide +kernel
theorem d_N_overlap_15 : decode b_N_overlap 15 = .ok (.goto 4, 3) := by decide +kernel
theorem d_N_overlap_18 : decode b_N_overlap 18 = .ok (.iconst 0, 1) := by decide +kernel
theorem d_N_overlap_19 : decode b_N_overlap 19 = .ok (.ireturn, 1) := by decide +kernel
def f_N_overlap (a1 : Int64) (a2 : Int64) (a3 : Int64) (a4 : Int64) : Option Int32 := (if 0 ≤ (lg_cmp a1 a4) then (some (0)) else (if 0 ≤ (lg_cmp a3 a2) then (some (0)) else (some (1))))
set_option maxHeartbeats 4000000 in
set_option maxRecDepth 100000 in
theorem c_N_overlap (l : Launch) (sz : Nat) (a1 : Int64) (a2 : Int64) (a3 : Int64) (a4 : Int64) (r0 : Int32) (hF : f_N_overlap a1 a2 a3 a4 = some r0) : Met l y_N_overlap (qs_ws y_N_overlap b_N_overlap 8 (some .boolean)) ({ frames := 0, cells := 0, slots := 0, locals := 0 } : Room) (va_Pc ([.long a1, .long a2, .long a3, .long a4] : List Value) (fun U => U.heap.size = sz ∧ qs_N U)) (va_Qi (fun (r : Int32) (_ : Unit) => r = r0) (fun _ _ => True) (va_A [] sz)) 0 0 (va_A [] sz) := by
  refine Met.ofW (cc := b_N_overlap) (maxL := 8) (ret := (some .boolean)) (by decide +kernel) rfl ?_
  intro p e s m args below meth cd s₁ B hml hv
  obtain ⟨rfl, hsz, hNs⟩ := hv
  have hx := B.exec
  have hb := B.bytes
  have hr := B.returns
  have hts := atoms_spec (ws := (qs_ws y_N_overlap b_N_overlap 8 (some .boolean))) B.pre
  have hg : ∀ w ∈ qs_gt, w.before _ s = true := fun w h => hts w (List.mem_cons_of_mem _ h)
  have hown : s.vm.findClass R_N = some m.cls := findClass_of_methodNamed B.named
  have hlocks := B.notSynchronized
  subst hsz
  have hD : va_D (va_A [] s.heap.size) [] := qs_D0
  have hP : va_P qs_G0 [] [] s.heap := qs_P0
  generalize hAe : va_A ([]) s.heap.size = A at hD ⊢
  have hA : ∀ q : Nat, s.heap.size ≤ q → A q := fun q h => by rw [← hAe]; exact Or.inr h
  have hS : va_S A s.heap s.heap [] := va_S.rf
  have hl := lv_entry ([.long a1, .long a2, .long a3, .long a4] : List Value) (n := 8) (Nat.le_of_ble_eq_true rfl)
  rw [lg_entry_eq]
  generalize (lg_sl ([.long a1, .long a2, .long a3, .long a4] : List Value) ++ List.replicate (8 - (lg_sl ([.long a1, .long a2, .long a3, .long a4] : List Value)).length) Slot.unset).toArray = ls at hl ⊢
  have hl : lv_has ls 8 [(0, .long (a1)), (2, .long (a2)), (4, .long (a3)), (6, .long (a4))] := hl
  unfold f_N_overlap at hF
  obtain ⟨H, hHe⟩ : ∃ H, H = s.heap := ⟨_, rfl⟩
  obtain ⟨locs, hLe⟩ : ∃ L : List Loc, L = [] := ⟨_, rfl⟩
  rw [← hHe] at hP ⊢
  rw [← hLe]
  have hS : va_S A s.heap H locs := by rw [hHe, hLe]; exact hS
  refine lv_lload_n hx hb d_N_overlap_0 rfl (lv_at hl 0 rfl) ?_
  refine lv_lload hx hb d_N_overlap_1 (lv_at hl 3 rfl) ?_
  refine W.lcmp hx hb d_N_overlap_3 ?_
  refine lv_if_ge (tgt := 18) hx hb d_N_overlap_4 (by decide) (fun c1 => ?_) (fun c1 => ?_)
  · have hF := qs_pos c1 hF
    refine lv_iconst (v := 0) hx hb d_N_overlap_18 (by decide) ?_
    have h9 := Option.some.inj hF
    exact W.zret (ty := .boolean) (v := 0) hx hb hr rfl (fun t ht hW => ⟨⟨0, (), rfl, h9, trivial⟩, hS.F ht⟩) hS.2.2 d_N_overlap_19
  · have hF := qs_neg c1 hF
    refine lv_lload hx hb d_N_overlap_7 (lv_at hl 2 rfl) ?_
    refine lv_lload_n hx hb d_N_overlap_9 rfl (lv_at hl 1 rfl) ?_
    refine W.lcmp hx hb d_N_overlap_10 ?_
    refine lv_if_ge (tgt := 18) hx hb d_N_overlap_11 (by decide) (fun c2 => ?_) (fun c2 => ?_)
    · have hF := qs_pos c2 hF
      refine lv_iconst (v := 0) hx hb d_N_overlap_18 (by decide) ?_
      have h9 := Option.some.inj hF
      exact W.zret (ty := .boolean) (v := 0) hx hb hr rfl (fun t ht hW => ⟨⟨0, (), rfl, h9, trivial⟩, hS.F ht⟩) hS.2.2 d_N_overlap_19
    · have hF := qs_neg c2 hF
      refine lv_iconst (v := 1) hx hb d_N_overlap_14 (by decide) ?_
      refine lv_goto (tgt := 19) hx hb d_N_overlap_15 (by decide) ?_
      have h9 := Option.some.inj hF
      exact W.zret (ty := .boolean) (v := 1) hx hb hr rfl (fun t ht hW => ⟨⟨1, (), rfl, h9, trivial⟩, hS.F ht⟩) hS.2.2 d_N_overlap_19
