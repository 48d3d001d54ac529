theorem d_E_init_0 : decode b_E_init 0 = .ok (.aload_n 0, 1) := by decide +kernel
theorem d_E_init_1 : decode b_E_init 1 = .ok (.invokespecial 3, 3) := by decide +kernel
theorem d_E_init_4 : decode b_E_init 4 = .ok (.aload_n 0, 1) := by decide +kernel
theorem d_E_init_5 : decode b_E_init 5 = .ok (.bipush 12, 2) := by decide +kernel
theorem d_E_init_7 : decode b_E_init 7 = .ok (.newarray .boolean, 2) := by decide +kernel
theorem d_E_init_9 : decode b_E_init 9 = .ok (.putfield 9, 3) := by decide +kernel
theorem d_E_init_12 : decode b_E_init 12 = .ok (.aload_n 0, 1) := by decide +kernel
theorem d_E_init_13 : decode b_E_init 13 = .ok (.sipush 192, 3) := by decide +kernel
theorem d_E_init_16 : decode b_E_init 16 = .ok (.newarray .int, 2) := by decide +kernel
theorem d_E_init_18 : decode b_E_init 18 = .ok (.putfield 15, 3) := by decide +kernel
theorem d_E_init_21 : decode b_E_init 21 = .ok (.return_, 1) := by decide +kernel
set_option maxHeartbeats 4000000 in
set_option maxRecDepth 100000 in
theorem c_E_init (l : Launch) (dC : Nat → ClassId) (dI : Nat → Nat → Nat) (q  : Nat) (sz : Nat) : Met l y_E_init (qs_ws y_E_init b_E_init 1 none) ({ frames := 1, cells := 2, slots := 204, locals := 12 } : Room) (va_Pc ([.ref q] : List Value) (fun U => U.heap.size = sz ∧ va_P (dC, dI) vwCl [(q, .inr (0, [.null, .null]))] U.heap ∧ va_K (dC, dI) vwCl [] U ∧ va_D (fun _ => True) [(q, .inr (0, [.null, .null]))] ∧ qs_N U)) (va_Qv (fun (_ : Unit) => True) (fun (_ : Unit) (t : State) => ∃ (a1 a2 : Nat) (k1 k2 : ClassId), va_P (dC, dI) vwCl [(q, .inr (0, [.ref a1, .ref a2])), (a1, .inl (k1, 12, .inl (fun _ => 0))), (a2, .inl (k2, 192, .inl (fun _ => 0)))] t.heap ∧ va_K (dC, dI) vwCl [(k1, .boolean), (k2, .int)] t ∧ va_D (va_A [(q, .inr (0, [.null, .null]))] sz) [(q, .inr (0, [.ref a1, .ref a2])), (a1, .inl (k1, 12, .inl (fun _ => 0))), (a2, .inl (k2, 192, .inl (fun _ => 0)))]) (va_A [(q, .inr (0, [.null, .null]))] sz)) 2 204 (va_A [(q, .inr (0, [.null, .null]))] sz) := by
  refine Met.ofW (cc := b_E_init) (maxL := 1) (ret := none) (by decide +kernel) rfl ?_
  intro p e s m args below meth cd s₁ B hml hv
  obtain ⟨rfl, hsz, hP, hK, hD0, hNs⟩ := hv
  have hx := B.exec
  have hb := B.bytes
  have hr := B.returns
  have hts := atoms_spec (ws := (qs_ws y_E_init b_E_init 1 none)) B.pre
  have hg : ∀ w ∈ qs_gt, w.before _ s = true := fun w h => hts w (List.mem_cons_of_mem _ h)
  have hown : s.vm.findClass R_E = some m.cls := findClass_of_methodNamed B.named
  have hlocks := B.notSynchronized
  have hin : meth.name = "<init>" := (name_of_methodNamed B.named B.method).1
  subst hsz
  have hD := hD0.self (sz := s.heap.size)
  generalize hAe : va_A [(q, .inr (0, [.null, .null]))] s.heap.size = A at hD ⊢
  have hA : ∀ q : Nat, s.heap.size ≤ q → A q := fun q h => by rw [← hAe]; exact Or.inr h
  have hS : va_S A s.heap s.heap [] := va_S.rf
  have hl := lv_entry ([.ref q] : List Value) (n := 1) (Nat.le_of_ble_eq_true rfl)
  rw [lg_entry_eq]
  generalize (lg_sl ([.ref q] : List Value) ++ List.replicate (1 - (lg_sl ([.ref q] : List Value)).length) Slot.unset).toArray = ls at hl ⊢
  have hl : lv_has ls 1 [(0, .ref q)] := hl
  obtain ⟨H, hHe⟩ : ∃ H, H = s.heap := ⟨_, rfl⟩
  obtain ⟨locs, hLe⟩ : ∃ L : List Loc, L = [] := ⟨_, rfl⟩
  rw [← hHe] at hP ⊢
  rw [← hLe]
  have hS : va_S A s.heap H locs := by rw [hHe, hLe]; exact hS
  refine lv_aload_n hx hb d_E_init_0 rfl (lv_at hl 0 rfl) ?_
  refine W.objInit hx hb hown (hg _ t_29) (hg _ t_22) (hg _ t_23) rfl (by rw [hml]; exact hl.1) rfl d_E_init_1 (Nat.le_of_ble_eq_true rfl) (Nat.le_of_ble_eq_true rfl) ?_
  refine W.eq (g2 := F0 m 4 ls []) rfl ?_
  refine lv_aload_n hx hb d_E_init_4 rfl (lv_at hl 0 rfl) ?_
  refine lv_bipush (v := 12) hx hb d_E_init_5 (by decide) ?_
  refine va_newa (atype := .boolean) (ty := .boolean) (a0 := (12, .inl (fun _ => 0))) hx hb (hg _ t_37) rfl hK hP hD hS hA (fun _ => rfl) (by decide) (by decide) (by decide) (Nat.le_of_ble_eq_true rfl) (Nat.le_of_ble_eq_true rfl) d_E_init_7 (fun a1 k1 H hK hP hD hS => ?_)
  have hP : va_P (dC, dI) vwCl [(q, .inr (0, [.null, .null])), (a1, .inl (k1, 12, .inl (fun _ => 0)))] H := hP
  have hD : va_D A [(q, .inr (0, [.null, .null])), (a1, .inl (k1, 12, .inl (fun _ => 0)))] := hD
  have hK : va_K (dC, dI) vwCl [(k1, .boolean)] s := hK
  refine va_putF (D := (dC, dI)) (ci := 0) (v := .ref a1) (ty := .array .boolean) (C := R_E) (T := T_E) (N := 2) hx hb hg in_E ty_E ty_E_ok nm_E hown hK hP hD hS 0 rfl rfl 0 (by decide) (hg _ t_30) (fun _ h9 => h9) rfl hin rfl (by decide +kernel) rfl rfl (Nat.le_of_ble_eq_true rfl) d_E_init_9 (fun H locs hP hD hS => ?_)
  have hP : va_P (dC, dI) vwCl [(q, .inr (0, [.ref a1, .null])), (a1, .inl (k1, 12, .inl (fun _ => 0)))] H := hP
  have hD : va_D A [(q, .inr (0, [.ref a1, .null])), (a1, .inl (k1, 12, .inl (fun _ => 0)))] := hD
  refine lv_aload_n hx hb d_E_init_12 rfl (lv_at hl 0 rfl) ?_
  refine lv_sipush (v := 192) hx hb d_E_init_13 (by decide) ?_
  refine va_newa (atype := .int) (ty := .int) (a0 := (192, .inl (fun _ => 0))) hx hb (hg _ t_38) rfl hK hP hD hS hA (fun _ => rfl) (by decide) (by decide) (by decide) (Nat.le_of_ble_eq_true rfl) (Nat.le_of_ble_eq_true rfl) d_E_init_16 (fun a2 k2 H hK hP hD hS => ?_)
  have hP : va_P (dC, dI) vwCl [(q, .inr (0, [.ref a1, .null])), (a1, .inl (k1, 12, .inl (fun _ => 0))), (a2, .inl (k2, 192, .inl (fun _ => 0)))] H := hP
  have hD : va_D A [(q, .inr (0, [.ref a1, .null])), (a1, .inl (k1, 12, .inl (fun _ => 0))), (a2, .inl (k2, 192, .inl (fun _ => 0)))] := hD
  have hK : va_K (dC, dI) vwCl [(k1, .boolean), (k2, .int)] s := hK
  refine va_putF (D := (dC, dI)) (ci := 0) (v := .ref a2) (ty := .array .int) (C := R_E) (T := T_E) (N := 2) hx hb hg in_E ty_E ty_E_ok nm_E hown hK hP hD hS 0 rfl rfl 1 (by decide) (hg _ t_31) (fun _ h9 => h9) rfl hin rfl (by decide +kernel) rfl rfl (Nat.le_of_ble_eq_true rfl) d_E_init_18 (fun H locs hP hD hS => ?_)
  have hP : va_P (dC, dI) vwCl [(q, .inr (0, [.ref a1, .ref a2])), (a1, .inl (k1, 12, .inl (fun _ => 0))), (a2, .inl (k2, 192, .inl (fun _ => 0)))] H := hP
  have hD : va_D A [(q, .inr (0, [.ref a1, .ref a2])), (a1, .inl (k1, 12, .inl (fun _ => 0))), (a2, .inl (k2, 192, .inl (fun _ => 0)))] := hD
  refine W.widen (k := 2) (n := 204) (Nat.le_of_ble_eq_true rfl) (Nat.le_of_ble_eq_true rfl) ?_
  exact W.vret hx hb hr (fun t ht hW => ⟨⟨(), rfl, trivial, a1, a2, k1, k2, by rw [ht]; exact hP, va_K.moved hW.alike hK, hD⟩, hS.F ht⟩) hS.2.2 d_E_init_21

theorem d_W_init_0 : decode b_W_init 0 = .ok (.aload_n 0, 1) := by decide +kernel
theorem d_W_init_1 : decode b_W_init 1 = .ok (.invokespecial 3, 3) := by decide +kernel
theorem d_W_init_4 : decode b_W_init 4 = .ok (.aload_n 0, 1) := by decide +kernel
theorem d_W_init_5 : decode b_W_init 5 = .ok (.bipush 12, 2) := by decide +kernel
theorem d_W_init_7 : decode b_W_init 7 = .ok (.newarray .int, 2) := by decide +kernel
theorem d_W_init_9 : decode b_W_init 9 = .ok (.putfield 9, 3) := by decide +kernel
theorem d_W_init_12 : decode b_W_init 12 = .ok (.aload_n 0, 1) := by decide +kernel
theorem d_W_init_13 : decode b_W_init 13 = .ok (.bipush 12, 2) := by decide +kernel
theorem d_W_init_15 : decode b_W_init 15 = .ok (.newarray .int, 2) := by decide +kernel
theorem d_W_init_17 : decode b_W_init 17 = .ok (.putfield 15, 3) := by decide +kernel
theorem d_W_init_20 : decode b_W_init 20 = .ok (.return_, 1) := by decide +kernel
set_option maxHeartbeats 4000000 in
set_option maxRecDepth 100000 in
theorem c_W_init (l : Launch) (dC : Nat → ClassId) (dI : Nat → Nat → Nat) (q  : Nat) (sz : Nat) : Met l y_W_init (qs_ws y_W_init b_W_init 1 none) ({ frames := 1, cells := 2, slots := 24, locals := 12 } : Room) (va_Pc ([.ref q] : List Value) (fun U => U.heap.size = sz ∧ va_P (dC, dI) vwCl [(q, .inr (1, [.null, .null, .int 0]))] U.heap ∧ va_K (dC, dI) vwCl [] U ∧ va_D (fun _ => True) [(q, .inr (1, [.null, .null, .int 0]))] ∧ qs_N U)) (va_Qv (fun (_ : Unit) => True) (fun (_ : Unit) (t : State) => ∃ (a1 a2 : Nat) (k1 k2 : ClassId), va_P (dC, dI) vwCl [(q, .inr (1, [.ref a1, .ref a2, .int 0])), (a1, .inl (k1, 12, .inl (fun _ => 0))), (a2, .inl (k2, 12, .inl (fun _ => 0)))] t.heap ∧ va_K (dC, dI) vwCl [(k1, .int), (k2, .int)] t ∧ va_D (va_A [(q, .inr (1, [.null, .null, .int 0]))] sz) [(q, .inr (1, [.ref a1, .ref a2, .int 0])), (a1, .inl (k1, 12, .inl (fun _ => 0))), (a2, .inl (k2, 12, .inl (fun _ => 0)))]) (va_A [(q, .inr (1, [.null, .null, .int 0]))] sz)) 2 24 (va_A [(q, .inr (1, [.null, .null, .int 0]))] sz) := by
  refine Met.ofW (cc := b_W_init) (maxL := 1) (ret := none) (by decide +kernel) rfl ?_
  intro p e s m args below meth cd s₁ B hml hv
  obtain ⟨rfl, hsz, hP, hK, hD0, hNs⟩ := hv
  have hx := B.exec
  have hb := B.bytes
  have hr := B.returns
  have hts := atoms_spec (ws := (qs_ws y_W_init b_W_init 1 none)) B.pre
  have hg : ∀ w ∈ qs_gt, w.before _ s = true := fun w h => hts w (List.mem_cons_of_mem _ h)
  have hown : s.vm.findClass R_W = some m.cls := findClass_of_methodNamed B.named
  have hlocks := B.notSynchronized
  have hin : meth.name = "<init>" := (name_of_methodNamed B.named B.method).1
  subst hsz
  have hD := hD0.self (sz := s.heap.size)
  generalize hAe : va_A [(q, .inr (1, [.null, .null, .int 0]))] s.heap.size = A at hD ⊢
  have hA : ∀ q : Nat, s.heap.size ≤ q → A q := fun q h => by rw [← hAe]; exact Or.inr h
  have hS : va_S A s.heap s.heap [] := va_S.rf
  have hl := lv_entry ([.ref q] : List Value) (n := 1) (Nat.le_of_ble_eq_true rfl)
  rw [lg_entry_eq]
  generalize (lg_sl ([.ref q] : List Value) ++ List.replicate (1 - (lg_sl ([.ref q] : List Value)).length) Slot.unset).toArray = ls at hl ⊢
  have hl : lv_has ls 1 [(0, .ref q)] := hl
  obtain ⟨H, hHe⟩ : ∃ H, H = s.heap := ⟨_, rfl⟩
  obtain ⟨locs, hLe⟩ : ∃ L : List Loc, L = [] := ⟨_, rfl⟩
  rw [← hHe] at hP ⊢
  rw [← hLe]
  have hS : va_S A s.heap H locs := by rw [hHe, hLe]; exact hS
  refine lv_aload_n hx hb d_W_init_0 rfl (lv_at hl 0 rfl) ?_
  refine W.objInit hx hb hown (hg _ t_44) (hg _ t_22) (hg _ t_23) rfl (by rw [hml]; exact hl.1) rfl d_W_init_1 (Nat.le_of_ble_eq_true rfl) (Nat.le_of_ble_eq_true rfl) ?_
  refine W.eq (g2 := F0 m 4 ls []) rfl ?_
  refine lv_aload_n hx hb d_W_init_4 rfl (lv_at hl 0 rfl) ?_
  refine lv_bipush (v := 12) hx hb d_W_init_5 (by decide) ?_
  refine va_newa (atype := .int) (ty := .int) (a0 := (12, .inl (fun _ => 0))) hx hb (hg _ t_38) rfl hK hP hD hS hA (fun _ => rfl) (by decide) (by decide) (by decide) (Nat.le_of_ble_eq_true rfl) (Nat.le_of_ble_eq_true rfl) d_W_init_7 (fun a1 k1 H hK hP hD hS => ?_)
  have hP : va_P (dC, dI) vwCl [(q, .inr (1, [.null, .null, .int 0])), (a1, .inl (k1, 12, .inl (fun _ => 0)))] H := hP
  have hD : va_D A [(q, .inr (1, [.null, .null, .int 0])), (a1, .inl (k1, 12, .inl (fun _ => 0)))] := hD
  have hK : va_K (dC, dI) vwCl [(k1, .int)] s := hK
  refine va_putF (D := (dC, dI)) (ci := 1) (v := .ref a1) (ty := .array .int) (C := R_W) (T := T_W) (N := 3) hx hb hg in_W ty_W ty_W_ok nm_W hown hK hP hD hS 0 rfl rfl 0 (by decide) (hg _ t_45) (fun _ h9 => h9) rfl hin rfl (by decide +kernel) rfl rfl (Nat.le_of_ble_eq_true rfl) d_W_init_9 (fun H locs hP hD hS => ?_)
  have hP : va_P (dC, dI) vwCl [(q, .inr (1, [.ref a1, .null, .int 0])), (a1, .inl (k1, 12, .inl (fun _ => 0)))] H := hP
  have hD : va_D A [(q, .inr (1, [.ref a1, .null, .int 0])), (a1, .inl (k1, 12, .inl (fun _ => 0)))] := hD
  refine lv_aload_n hx hb d_W_init_12 rfl (lv_at hl 0 rfl) ?_
  refine lv_bipush (v := 12) hx hb d_W_init_13 (by decide) ?_
  refine va_newa (atype := .int) (ty := .int) (a0 := (12, .inl (fun _ => 0))) hx hb (hg _ t_38) rfl hK hP hD hS hA (fun _ => rfl) (by decide) (by decide) (by decide) (Nat.le_of_ble_eq_true rfl) (Nat.le_of_ble_eq_true rfl) d_W_init_15 (fun a2 k2 H hK hP hD hS => ?_)
  have hP : va_P (dC, dI) vwCl [(q, .inr (1, [.ref a1, .null, .int 0])), (a1, .inl (k1, 12, .inl (fun _ => 0))), (a2, .inl (k2, 12, .inl (fun _ => 0)))] H := hP
  have hD : va_D A [(q, .inr (1, [.ref a1, .null, .int 0])), (a1, .inl (k1, 12, .inl (fun _ => 0))), (a2, .inl (k2, 12, .inl (fun _ => 0)))] := hD
  have hK : va_K (dC, dI) vwCl [(k1, .int), (k2, .int)] s := hK
  refine va_putF (D := (dC, dI)) (ci := 1) (v := .ref a2) (ty := .array .int) (C := R_W) (T := T_W) (N := 3) hx hb hg in_W ty_W ty_W_ok nm_W hown hK hP hD hS 0 rfl rfl 1 (by decide) (hg _ t_46) (fun _ h9 => h9) rfl hin rfl (by decide +kernel) rfl rfl (Nat.le_of_ble_eq_true rfl) d_W_init_17 (fun H locs hP hD hS => ?_)
  have hP : va_P (dC, dI) vwCl [(q, .inr (1, [.ref a1, .ref a2, .int 0])), (a1, .inl (k1, 12, .inl (fun _ => 0))), (a2, .inl (k2, 12, .inl (fun _ => 0)))] H := hP
  have hD : va_D A [(q, .inr (1, [.ref a1, .ref a2, .int 0])), (a1, .inl (k1, 12, .inl (fun _ => 0))), (a2, .inl (k2, 12, .inl (fun _ => 0)))] := hD
  refine W.widen (k := 2) (n := 24) (Nat.le_of_ble_eq_true rfl) (Nat.le_of_ble_eq_true rfl) ?_
  exact W.vret hx hb hr (fun t ht hW => ⟨⟨(), rfl, trivial, a1, a2, k1, k2, by rw [ht]; exact hP, va_K.moved hW.alike hK, hD⟩, hS.F ht⟩) hS.2.2 d_W_init_20

theorem d_P_init_0 : decode b_P_init 0 = .ok (.aload_n 0, 1) := by decide +kernel
theorem d_P_init_1 : decode b_P_init 1 = .ok (.invokespecial 3, 3) := by decide +kernel
theorem d_P_init_4 : decode b_P_init 4 = .ok (.aload_n 0, 1) := by decide +kernel
theorem d_P_init_5 : decode b_P_init 5 = .ok (.sipush 336, 3) := by decide +kernel
theorem d_P_init_8 : decode b_P_init 8 = .ok (.newarray .int, 2) := by decide +kernel
theorem d_P_init_10 : decode b_P_init 10 = .ok (.putfield 11, 3) := by decide +kernel
theorem d_P_init_13 : decode b_P_init 13 = .ok (.aload_n 0, 1) := by decide +kernel
theorem d_P_init_14 : decode b_P_init 14 = .ok (.bipush 6, 2) := by decide +kernel
theorem d_P_init_16 : decode b_P_init 16 = .ok (.newarray .int, 2) := by decide +kernel
theorem d_P_init_18 : decode b_P_init 18 = .ok (.putfield 15, 3) := by decide +kernel
theorem d_P_init_21 : decode b_P_init 21 = .ok (.return_, 1) := by decide +kernel
set_option maxHeartbeats 4000000 in
set_option maxRecDepth 100000 in
theorem c_P_init (l : Launch) (dC : Nat → ClassId) (dI : Nat → Nat → Nat) (q  : Nat) (sz : Nat) : Met l y_P_init (qs_ws y_P_init b_P_init 1 none) ({ frames := 1, cells := 2, slots := 342, locals := 12 } : Room) (va_Pc ([.ref q] : List Value) (fun U => U.heap.size = sz ∧ va_P (dC, dI) vwCl [(q, .inr (2, [.null, .null]))] U.heap ∧ va_K (dC, dI) vwCl [] U ∧ va_D (fun _ => True) [(q, .inr (2, [.null, .null]))] ∧ qs_N U)) (va_Qv (fun (_ : Unit) => True) (fun (_ : Unit) (t : State) => ∃ (a1 a2 : Nat) (k1 k2 : ClassId), va_P (dC, dI) vwCl [(q, .inr (2, [.ref a1, .ref a2])), (a1, .inl (k1, 336, .inl (fun _ => 0))), (a2, .inl (k2, 6, .inl (fun _ => 0)))] t.heap ∧ va_K (dC, dI) vwCl [(k1, .int), (k2, .int)] t ∧ va_D (va_A [(q, .inr (2, [.null, .null]))] sz) [(q, .inr (2, [.ref a1, .ref a2])), (a1, .inl (k1, 336, .inl (fun _ => 0))), (a2, .inl (k2, 6, .inl (fun _ => 0)))]) (va_A [(q, .inr (2, [.null, .null]))] sz)) 2 342 (va_A [(q, .inr (2, [.null, .null]))] sz) := by
  refine Met.ofW (cc := b_P_init) (maxL := 1) (ret := none) (by decide +kernel) rfl ?_
  intro p e s m args below meth cd s₁ B hml hv
  obtain ⟨rfl, hsz, hP, hK, hD0, hNs⟩ := hv
  have hx := B.exec
  have hb := B.bytes
  have hr := B.returns
  have hts := atoms_spec (ws := (qs_ws y_P_init b_P_init 1 none)) B.pre
  have hg : ∀ w ∈ qs_gt, w.before _ s = true := fun w h => hts w (List.mem_cons_of_mem _ h)
  have hown : s.vm.findClass R_P = some m.cls := findClass_of_methodNamed B.named
  have hlocks := B.notSynchronized
  have hin : meth.name = "<init>" := (name_of_methodNamed B.named B.method).1
  subst hsz
  have hD := hD0.self (sz := s.heap.size)
  generalize hAe : va_A [(q, .inr (2, [.null, .null]))] s.heap.size = A at hD ⊢
  have hA : ∀ q : Nat, s.heap.size ≤ q → A q := fun q h => by rw [← hAe]; exact Or.inr h
  have hS : va_S A s.heap s.heap [] := va_S.rf
  have hl := lv_entry ([.ref q] : List Value) (n := 1) (Nat.le_of_ble_eq_true rfl)
  rw [lg_entry_eq]
  generalize (lg_sl ([.ref q] : List Value) ++ List.replicate (1 - (lg_sl ([.ref q] : List Value)).length) Slot.unset).toArray = ls at hl ⊢
  have hl : lv_has ls 1 [(0, .ref q)] := hl
  obtain ⟨H, hHe⟩ : ∃ H, H = s.heap := ⟨_, rfl⟩
  obtain ⟨locs, hLe⟩ : ∃ L : List Loc, L = [] := ⟨_, rfl⟩
  rw [← hHe] at hP ⊢
  rw [← hLe]
  have hS : va_S A s.heap H locs := by rw [hHe, hLe]; exact hS
  refine lv_aload_n hx hb d_P_init_0 rfl (lv_at hl 0 rfl) ?_
  refine W.objInit hx hb hown (hg _ t_62) (hg _ t_22) (hg _ t_23) rfl (by rw [hml]; exact hl.1) rfl d_P_init_1 (Nat.le_of_ble_eq_true rfl) (Nat.le_of_ble_eq_true rfl) ?_
  refine W.eq (g2 := F0 m 4 ls []) rfl ?_
  refine lv_aload_n hx hb d_P_init_4 rfl (lv_at hl 0 rfl) ?_
  refine lv_sipush (v := 336) hx hb d_P_init_5 (by decide) ?_
  refine va_newa (atype := .int) (ty := .int) (a0 := (336, .inl (fun _ => 0))) hx hb (hg _ t_38) rfl hK hP hD hS hA (fun _ => rfl) (by decide) (by decide) (by decide) (Nat.le_of_ble_eq_true rfl) (Nat.le_of_ble_eq_true rfl) d_P_init_8 (fun a1 k1 H hK hP hD hS => ?_)
  have hP : va_P (dC, dI) vwCl [(q, .inr (2, [.null, .null])), (a1, .inl (k1, 336, .inl (fun _ => 0)))] H := hP
  have hD : va_D A [(q, .inr (2, [.null, .null])), (a1, .inl (k1, 336, .inl (fun _ => 0)))] := hD
  have hK : va_K (dC, dI) vwCl [(k1, .int)] s := hK
  refine va_putF (D := (dC, dI)) (ci := 2) (v := .ref a1) (ty := .array .int) (C := R_P) (T := T_P) (N := 2) hx hb hg in_P ty_P ty_P_ok nm_P hown hK hP hD hS 0 rfl rfl 0 (by decide) (hg _ t_63) (fun _ h9 => h9) rfl hin rfl (by decide +kernel) rfl rfl (Nat.le_of_ble_eq_true rfl) d_P_init_10 (fun H locs hP hD hS => ?_)
  have hP : va_P (dC, dI) vwCl [(q, .inr (2, [.ref a1, .null])), (a1, .inl (k1, 336, .inl (fun _ => 0)))] H := hP
  have hD : va_D A [(q, .inr (2, [.ref a1, .null])), (a1, .inl (k1, 336, .inl (fun _ => 0)))] := hD
  refine lv_aload_n hx hb d_P_init_13 rfl (lv_at hl 0 rfl) ?_
  refine lv_bipush (v := 6) hx hb d_P_init_14 (by decide) ?_
  refine va_newa (atype := .int) (ty := .int) (a0 := (6, .inl (fun _ => 0))) hx hb (hg _ t_38) rfl hK hP hD hS hA (fun _ => rfl) (by decide) (by decide) (by decide) (Nat.le_of_ble_eq_true rfl) (Nat.le_of_ble_eq_true rfl) d_P_init_16 (fun a2 k2 H hK hP hD hS => ?_)
  have hP : va_P (dC, dI) vwCl [(q, .inr (2, [.ref a1, .null])), (a1, .inl (k1, 336, .inl (fun _ => 0))), (a2, .inl (k2, 6, .inl (fun _ => 0)))] H := hP
  have hD : va_D A [(q, .inr (2, [.ref a1, .null])), (a1, .inl (k1, 336, .inl (fun _ => 0))), (a2, .inl (k2, 6, .inl (fun _ => 0)))] := hD
  have hK : va_K (dC, dI) vwCl [(k1, .int), (k2, .int)] s := hK
  refine va_putF (D := (dC, dI)) (ci := 2) (v := .ref a2) (ty := .array .int) (C := R_P) (T := T_P) (N := 2) hx hb hg in_P ty_P ty_P_ok nm_P hown hK hP hD hS 0 rfl rfl 1 (by decide) (hg _ t_65) (fun _ h9 => h9) rfl hin rfl (by decide +kernel) rfl rfl (Nat.le_of_ble_eq_true rfl) d_P_init_18 (fun H locs hP hD hS => ?_)
  have hP : va_P (dC, dI) vwCl [(q, .inr (2, [.ref a1, .ref a2])), (a1, .inl (k1, 336, .inl (fun _ => 0))), (a2, .inl (k2, 6, .inl (fun _ => 0)))] H := hP
  have hD : va_D A [(q, .inr (2, [.ref a1, .ref a2])), (a1, .inl (k1, 336, .inl (fun _ => 0))), (a2, .inl (k2, 6, .inl (fun _ => 0)))] := hD
  refine W.widen (k := 2) (n := 342) (Nat.le_of_ble_eq_true rfl) (Nat.le_of_ble_eq_true rfl) ?_
  exact W.vret hx hb hr (fun t ht hW => ⟨⟨(), rfl, trivial, a1, a2, k1, k2, by rw [ht]; exact hP, va_K.moved hW.alike hK, hD⟩, hS.F ht⟩) hS.2.2 d_P_init_21

theorem d_M_init_0 : decode b_M_init 0 = .ok (.aload_n 0, 1) := by decide +kernel
theorem d_M_init_1 : decode b_M_init 1 = .ok (.invokespecial 3, 3) := by decide +kernel
theorem d_M_init_4 : decode b_M_init 4 = .ok (.aload_n 0, 1) := by decide +kernel
theorem d_M_init_5 : decode b_M_init 5 = .ok (.bipush 24, 2) := by decide +kernel
theorem d_M_init_7 : decode b_M_init 7 = .ok (.newarray .int, 2) := by decide +kernel
theorem d_M_init_9 : decode b_M_init 9 = .ok (.putfield 9, 3) := by decide +kernel
theorem d_M_init_12 : decode b_M_init 12 = .ok (.aload_n 0, 1) := by decide +kernel
theorem d_M_init_13 : decode b_M_init 13 = .ok (.bipush 6, 2) := by decide +kernel
theorem d_M_init_15 : decode b_M_init 15 = .ok (.newarray .int, 2) := by decide +kernel
theorem d_M_init_17 : decode b_M_init 17 = .ok (.putfield 15, 3) := by decide +kernel
theorem d_M_init_20 : decode b_M_init 20 = .ok (.aload_n 0, 1) := by decide +kernel
theorem d_M_init_21 : decode b_M_init 21 = .ok (.bipush 6, 2) := by decide +kernel
theorem d_M_init_23 : decode b_M_init 23 = .ok (.newarray .int, 2) := by decide +kernel
theorem d_M_init_25 : decode b_M_init 25 = .ok (.putfield 18, 3) := by decide +kernel
theorem d_M_init_28 : decode b_M_init 28 = .ok (.aload_n 0, 1) := by decide +kernel
theorem d_M_init_29 : decode b_M_init 29 = .ok (.iconst 1, 1) := by decide +kernel
theorem d_M_init_30 : decode b_M_init 30 = .ok (.putfield 21, 3) := by decide +kernel
theorem d_M_init_33 : decode b_M_init 33 = .ok (.aload_n 0, 1) := by decide +kernel
theorem d_M_init_34 : decode b_M_init 34 = .ok (.aload_n 1, 1) := by decide +kernel
theorem d_M_init_35 : decode b_M_init 35 = .ok (.putfield 25, 3) := by decide +kernel
theorem d_M_init_38 : decode b_M_init 38 = .ok (.aload_n 0, 1) := by decide +kernel
theorem d_M_init_39 : decode b_M_init 39 = .ok (.aload_n 2, 1) := by decide +kernel
theorem d_M_init_40 : decode b_M_init 40 = .ok (.putfield 29, 3) := by decide +kernel
theorem d_M_init_43 : decode b_M_init 43 = .ok (.return_, 1) := by decide +kernel
set_option maxHeartbeats 4000000 in
set_option maxRecDepth 100000 in
theorem c_M_init (l : Launch) (dC : Nat → ClassId) (dI : Nat → Nat → Nat) (q e1 e2 : Nat) (sz : Nat) : Met l y_M_init (qs_ws y_M_init b_M_init 3 none) ({ frames := 1, cells := 3, slots := 36, locals := 12 } : Room) (va_Pc ([.ref q, .ref e1, .ref e2] : List Value) (fun U => U.heap.size = sz ∧ va_P (dC, dI) vwCl [(q, .inr (3, [.null, .null, .null, .null, .null, .int 0, .int 0, .int 0, .int 0, .int 0, .int 0]))] U.heap ∧ va_K (dC, dI) vwCl [] U ∧ va_D (fun _ => True) [(q, .inr (3, [.null, .null, .null, .null, .null, .int 0, .int 0, .int 0, .int 0, .int 0, .int 0]))] ∧ qs_N U)) (va_Qv (fun (_ : Unit) => True) (fun (_ : Unit) (t : State) => ∃ (a1 a2 a3 : Nat) (k1 k2 k3 : ClassId), va_P (dC, dI) vwCl [(q, .inr (3, [.ref e1, .ref e2, .ref a1, .ref a2, .ref a3, .int 0, .int 0, .int 0, .int 1, .int 0, .int 0])), (a1, .inl (k1, 24, .inl (fun _ => 0))), (a2, .inl (k2, 6, .inl (fun _ => 0))), (a3, .inl (k3, 6, .inl (fun _ => 0)))] t.heap ∧ va_K (dC, dI) vwCl [(k1, .int), (k2, .int), (k3, .int)] t ∧ va_D (va_A [(q, .inr (3, [.null, .null, .null, .null, .null, .int 0, .int 0, .int 0, .int 0, .int 0, .int 0]))] sz) [(q, .inr (3, [.ref e1, .ref e2, .ref a1, .ref a2, .ref a3, .int 0, .int 0, .int 0, .int 1, .int 0, .int 0])), (a1, .inl (k1, 24, .inl (fun _ => 0))), (a2, .inl (k2, 6, .inl (fun _ => 0))), (a3, .inl (k3, 6, .inl (fun _ => 0)))]) (va_A [(q, .inr (3, [.null, .null, .null, .null, .null, .int 0, .int 0, .int 0, .int 0, .int 0, .int 0]))] sz)) 3 36 (va_A [(q, .inr (3, [.null, .null, .null, .null, .null, .int 0, .int 0, .int 0, .int 0, .int 0, .int 0]))] sz) := by
  refine Met.ofW (cc := b_M_init) (maxL := 3) (ret := none) (by decide +kernel) rfl ?_
  intro p e s m args below meth cd s₁ B hml hv
  obtain ⟨rfl, hsz, hP, hK, hD0, hNs⟩ := hv
  have hx := B.exec
  have hb := B.bytes
  have hr := B.returns
  have hts := atoms_spec (ws := (qs_ws y_M_init b_M_init 3 none)) B.pre
  have hg : ∀ w ∈ qs_gt, w.before _ s = true := fun w h => hts w (List.mem_cons_of_mem _ h)
  have hown : s.vm.findClass R_M = some m.cls := findClass_of_methodNamed B.named
  have hlocks := B.notSynchronized
  have hin : meth.name = "<init>" := (name_of_methodNamed B.named B.method).1
  subst hsz
  have hD := hD0.self (sz := s.heap.size)
  generalize hAe : va_A [(q, .inr (3, [.null, .null, .null, .null, .null, .int 0, .int 0, .int 0, .int 0, .int 0, .int 0]))] s.heap.size = A at hD ⊢
  have hA : ∀ q : Nat, s.heap.size ≤ q → A q := fun q h => by rw [← hAe]; exact Or.inr h
  have hS : va_S A s.heap s.heap [] := va_S.rf
  have hl := lv_entry ([.ref q, .ref e1, .ref e2] : List Value) (n := 3) (Nat.le_of_ble_eq_true rfl)
  rw [lg_entry_eq]
  generalize (lg_sl ([.ref q, .ref e1, .ref e2] : List Value) ++ List.replicate (3 - (lg_sl ([.ref q, .ref e1, .ref e2] : List Value)).length) Slot.unset).toArray = ls at hl ⊢
  have hl : lv_has ls 3 [(0, .ref q), (1, .ref e1), (2, .ref e2)] := hl
  obtain ⟨H, hHe⟩ : ∃ H, H = s.heap := ⟨_, rfl⟩
  obtain ⟨locs, hLe⟩ : ∃ L : List Loc, L = [] := ⟨_, rfl⟩
  rw [← hHe] at hP ⊢
  rw [← hLe]
  have hS : va_S A s.heap H locs := by rw [hHe, hLe]; exact hS
  refine lv_aload_n hx hb d_M_init_0 rfl (lv_at hl 0 rfl) ?_
  refine W.objInit hx hb hown (hg _ t_76) (hg _ t_22) (hg _ t_23) rfl (by rw [hml]; exact hl.1) rfl d_M_init_1 (Nat.le_of_ble_eq_true rfl) (Nat.le_of_ble_eq_true rfl) ?_
  refine W.eq (g2 := F0 m 4 ls []) rfl ?_
  refine lv_aload_n hx hb d_M_init_4 rfl (lv_at hl 0 rfl) ?_
  refine lv_bipush (v := 24) hx hb d_M_init_5 (by decide) ?_
  refine va_newa (atype := .int) (ty := .int) (a0 := (24, .inl (fun _ => 0))) hx hb (hg _ t_38) rfl hK hP hD hS hA (fun _ => rfl) (by decide) (by decide) (by decide) (Nat.le_of_ble_eq_true rfl) (Nat.le_of_ble_eq_true rfl) d_M_init_7 (fun a1 k1 H hK hP hD hS => ?_)
  have hP : va_P (dC, dI) vwCl [(q, .inr (3, [.null, .null, .null, .null, .null, .int 0, .int 0, .int 0, .int 0, .int 0, .int 0])), (a1, .inl (k1, 24, .inl (fun _ => 0)))] H := hP
  have hD : va_D A [(q, .inr (3, [.null, .null, .null, .null, .null, .int 0, .int 0, .int 0, .int 0, .int 0, .int 0])), (a1, .inl (k1, 24, .inl (fun _ => 0)))] := hD
  have hK : va_K (dC, dI) vwCl [(k1, .int)] s := hK
  refine va_putF (D := (dC, dI)) (ci := 3) (v := .ref a1) (ty := .array .int) (C := R_M) (T := T_M) (N := 11) hx hb hg in_M ty_M ty_M_ok nm_M hown hK hP hD hS 0 rfl rfl 2 (by decide) (hg _ t_79) (fun _ h9 => h9) rfl hin rfl (by decide +kernel) rfl rfl (Nat.le_of_ble_eq_true rfl) d_M_init_9 (fun H locs hP hD hS => ?_)
  have hP : va_P (dC, dI) vwCl [(q, .inr (3, [.null, .null, .ref a1, .null, .null, .int 0, .int 0, .int 0, .int 0, .int 0, .int 0])), (a1, .inl (k1, 24, .inl (fun _ => 0)))] H := hP
  have hD : va_D A [(q, .inr (3, [.null, .null, .ref a1, .null, .null, .int 0, .int 0, .int 0, .int 0, .int 0, .int 0])), (a1, .inl (k1, 24, .inl (fun _ => 0)))] := hD
  refine lv_aload_n hx hb d_M_init_12 rfl (lv_at hl 0 rfl) ?_
  refine lv_bipush (v := 6) hx hb d_M_init_13 (by decide) ?_
  refine va_newa (atype := .int) (ty := .int) (a0 := (6, .inl (fun _ => 0))) hx hb (hg _ t_38) rfl hK hP hD hS hA (fun _ => rfl) (by decide) (by decide) (by decide) (Nat.le_of_ble_eq_true rfl) (Nat.le_of_ble_eq_true rfl) d_M_init_15 (fun a2 k2 H hK hP hD hS => ?_)
  have hP : va_P (dC, dI) vwCl [(q, .inr (3, [.null, .null, .ref a1, .null, .null, .int 0, .int 0, .int 0, .int 0, .int 0, .int 0])), (a1, .inl (k1, 24, .inl (fun _ => 0))), (a2, .inl (k2, 6, .inl (fun _ => 0)))] H := hP
  have hD : va_D A [(q, .inr (3, [.null, .null, .ref a1, .null, .null, .int 0, .int 0, .int 0, .int 0, .int 0, .int 0])), (a1, .inl (k1, 24, .inl (fun _ => 0))), (a2, .inl (k2, 6, .inl (fun _ => 0)))] := hD
  have hK : va_K (dC, dI) vwCl [(k1, .int), (k2, .int)] s := hK
  refine va_putF (D := (dC, dI)) (ci := 3) (v := .ref a2) (ty := .array .int) (C := R_M) (T := T_M) (N := 11) hx hb hg in_M ty_M ty_M_ok nm_M hown hK hP hD hS 0 rfl rfl 3 (by decide) (hg _ t_81) (fun _ h9 => h9) rfl hin rfl (by decide +kernel) rfl rfl (Nat.le_of_ble_eq_true rfl) d_M_init_17 (fun H locs hP hD hS => ?_)
  have hP : va_P (dC, dI) vwCl [(q, .inr (3, [.null, .null, .ref a1, .ref a2, .null, .int 0, .int 0, .int 0, .int 0, .int 0, .int 0])), (a1, .inl (k1, 24, .inl (fun _ => 0))), (a2, .inl (k2, 6, .inl (fun _ => 0)))] H := hP
  have hD : va_D A [(q, .inr (3, [.null, .null, .ref a1, .ref a2, .null, .int 0, .int 0, .int 0, .int 0, .int 0, .int 0])), (a1, .inl (k1, 24, .inl (fun _ => 0))), (a2, .inl (k2, 6, .inl (fun _ => 0)))] := hD
  refine lv_aload_n hx hb d_M_init_20 rfl (lv_at hl 0 rfl) ?_
  refine lv_bipush (v := 6) hx hb d_M_init_21 (by decide) ?_
  refine va_newa (atype := .int) (ty := .int) (a0 := (6, .inl (fun _ => 0))) hx hb (hg _ t_38) rfl hK hP hD hS hA (fun _ => rfl) (by decide) (by decide) (by decide) (Nat.le_of_ble_eq_true rfl) (Nat.le_of_ble_eq_true rfl) d_M_init_23 (fun a3 k3 H hK hP hD hS => ?_)
  have hP : va_P (dC, dI) vwCl [(q, .inr (3, [.null, .null, .ref a1, .ref a2, .null, .int 0, .int 0, .int 0, .int 0, .int 0, .int 0])), (a1, .inl (k1, 24, .inl (fun _ => 0))), (a2, .inl (k2, 6, .inl (fun _ => 0))), (a3, .inl (k3, 6, .inl (fun _ => 0)))] H := hP
  have hD : va_D A [(q, .inr (3, [.null, .null, .ref a1, .ref a2, .null, .int 0, .int 0, .int 0, .int 0, .int 0, .int 0])), (a1, .inl (k1, 24, .inl (fun _ => 0))), (a2, .inl (k2, 6, .inl (fun _ => 0))), (a3, .inl (k3, 6, .inl (fun _ => 0)))] := hD
  have hK : va_K (dC, dI) vwCl [(k1, .int), (k2, .int), (k3, .int)] s := hK
  refine va_putF (D := (dC, dI)) (ci := 3) (v := .ref a3) (ty := .array .int) (C := R_M) (T := T_M) (N := 11) hx hb hg in_M ty_M ty_M_ok nm_M hown hK hP hD hS 0 rfl rfl 4 (by decide) (hg _ t_82) (fun _ h9 => h9) rfl hin rfl (by decide +kernel) rfl rfl (Nat.le_of_ble_eq_true rfl) d_M_init_25 (fun H locs hP hD hS => ?_)
  have hP : va_P (dC, dI) vwCl [(q, .inr (3, [.null, .null, .ref a1, .ref a2, .ref a3, .int 0, .int 0, .int 0, .int 0, .int 0, .int 0])), (a1, .inl (k1, 24, .inl (fun _ => 0))), (a2, .inl (k2, 6, .inl (fun _ => 0))), (a3, .inl (k3, 6, .inl (fun _ => 0)))] H := hP
  have hD : va_D A [(q, .inr (3, [.null, .null, .ref a1, .ref a2, .ref a3, .int 0, .int 0, .int 0, .int 0, .int 0, .int 0])), (a1, .inl (k1, 24, .inl (fun _ => 0))), (a2, .inl (k2, 6, .inl (fun _ => 0))), (a3, .inl (k3, 6, .inl (fun _ => 0)))] := hD
  refine lv_aload_n hx hb d_M_init_28 rfl (lv_at hl 0 rfl) ?_
  refine lv_iconst (v := 1) hx hb d_M_init_29 (by decide) ?_
  refine va_put (D := (dC, dI)) (ci := 3) (v := .int 1) (ty := .int) (C := R_M) (T := T_M) (N := 11) hx hb hg in_M ty_M ty_M_ok nm_M hown hK hP hD hS 0 rfl rfl 8 (by decide) (hg _ t_88) (fun _ h9 => h9) rfl (by decide +kernel) rfl rfl (Nat.le_of_ble_eq_true rfl) d_M_init_30 (fun H locs hP hD hS => ?_)
  have hP : va_P (dC, dI) vwCl [(q, .inr (3, [.null, .null, .ref a1, .ref a2, .ref a3, .int 0, .int 0, .int 0, .int 1, .int 0, .int 0])), (a1, .inl (k1, 24, .inl (fun _ => 0))), (a2, .inl (k2, 6, .inl (fun _ => 0))), (a3, .inl (k3, 6, .inl (fun _ => 0)))] H := hP
  have hD : va_D A [(q, .inr (3, [.null, .null, .ref a1, .ref a2, .ref a3, .int 0, .int 0, .int 0, .int 1, .int 0, .int 0])), (a1, .inl (k1, 24, .inl (fun _ => 0))), (a2, .inl (k2, 6, .inl (fun _ => 0))), (a3, .inl (k3, 6, .inl (fun _ => 0)))] := hD
  refine lv_aload_n hx hb d_M_init_33 rfl (lv_at hl 0 rfl) ?_
  refine lv_aload_n hx hb d_M_init_34 rfl (lv_at hl 1 rfl) ?_
  refine va_putF (D := (dC, dI)) (ci := 3) (v := .ref e1) (ty := .object "QuakeServer$Entities") (C := R_M) (T := T_M) (N := 11) hx hb hg in_M ty_M ty_M_ok nm_M hown hK hP hD hS 0 rfl rfl 0 (by decide) (hg _ t_77) (fun _ h9 => h9) rfl hin rfl (by decide +kernel) rfl rfl (Nat.le_of_ble_eq_true rfl) d_M_init_35 (fun H locs hP hD hS => ?_)
  have hP : va_P (dC, dI) vwCl [(q, .inr (3, [.ref e1, .null, .ref a1, .ref a2, .ref a3, .int 0, .int 0, .int 0, .int 1, .int 0, .int 0])), (a1, .inl (k1, 24, .inl (fun _ => 0))), (a2, .inl (k2, 6, .inl (fun _ => 0))), (a3, .inl (k3, 6, .inl (fun _ => 0)))] H := hP
  have hD : va_D A [(q, .inr (3, [.ref e1, .null, .ref a1, .ref a2, .ref a3, .int 0, .int 0, .int 0, .int 1, .int 0, .int 0])), (a1, .inl (k1, 24, .inl (fun _ => 0))), (a2, .inl (k2, 6, .inl (fun _ => 0))), (a3, .inl (k3, 6, .inl (fun _ => 0)))] := hD
  refine lv_aload_n hx hb d_M_init_38 rfl (lv_at hl 0 rfl) ?_
  refine lv_aload_n hx hb d_M_init_39 rfl (lv_at hl 2 rfl) ?_
  refine va_putF (D := (dC, dI)) (ci := 3) (v := .ref e2) (ty := .object "QuakeServer$Program") (C := R_M) (T := T_M) (N := 11) hx hb hg in_M ty_M ty_M_ok nm_M hown hK hP hD hS 0 rfl rfl 1 (by decide) (hg _ t_78) (fun _ h9 => h9) rfl hin rfl (by decide +kernel) rfl rfl (Nat.le_of_ble_eq_true rfl) d_M_init_40 (fun H locs hP hD hS => ?_)
  have hP : va_P (dC, dI) vwCl [(q, .inr (3, [.ref e1, .ref e2, .ref a1, .ref a2, .ref a3, .int 0, .int 0, .int 0, .int 1, .int 0, .int 0])), (a1, .inl (k1, 24, .inl (fun _ => 0))), (a2, .inl (k2, 6, .inl (fun _ => 0))), (a3, .inl (k3, 6, .inl (fun _ => 0)))] H := hP
  have hD : va_D A [(q, .inr (3, [.ref e1, .ref e2, .ref a1, .ref a2, .ref a3, .int 0, .int 0, .int 0, .int 1, .int 0, .int 0])), (a1, .inl (k1, 24, .inl (fun _ => 0))), (a2, .inl (k2, 6, .inl (fun _ => 0))), (a3, .inl (k3, 6, .inl (fun _ => 0)))] := hD
  refine W.widen (k := 3) (n := 36) (Nat.le_of_ble_eq_true rfl) (Nat.le_of_ble_eq_true rfl) ?_
  exact W.vret hx hb hr (fun t ht hW => ⟨⟨(), rfl, trivial, a1, a2, a3, k1, k2, k3, by rw [ht]; exact hP, va_K.moved hW.alike hK, hD⟩, hS.F ht⟩) hS.2.2 d_M_init_43

theorem d_V_init_0 : decode b_V_init 0 = .ok (.aload_n 0, 1) := by decide +kernel
theorem d_V_init_1 : decode b_V_init 1 = .ok (.invokespecial 3, 3) := by decide +kernel
theorem d_V_init_4 : decode b_V_init 4 = .ok (.aload_n 0, 1) := by decide +kernel
theorem d_V_init_5 : decode b_V_init 5 = .ok (.aload_n 1, 1) := by decide +kernel
theorem d_V_init_6 : decode b_V_init 6 = .ok (.putfield 9, 3) := by decide +kernel
theorem d_V_init_9 : decode b_V_init 9 = .ok (.aload_n 0, 1) := by decide +kernel
theorem d_V_init_10 : decode b_V_init 10 = .ok (.aload_n 2, 1) := by decide +kernel
theorem d_V_init_11 : decode b_V_init 11 = .ok (.putfield 15, 3) := by decide +kernel
theorem d_V_init_14 : decode b_V_init 14 = .ok (.aload_n 0, 1) := by decide +kernel
theorem d_V_init_15 : decode b_V_init 15 = .ok (.aload_n 3, 1) := by decide +kernel
theorem d_V_init_16 : decode b_V_init 16 = .ok (.putfield 19, 3) := by decide +kernel
theorem d_V_init_19 : decode b_V_init 19 = .ok (.return_, 1) := by decide +kernel
set_option maxHeartbeats 4000000 in
set_option maxRecDepth 100000 in
theorem c_V_init (l : Launch) (dC : Nat → ClassId) (dI : Nat → Nat → Nat) (q e1 e2 e3 : Nat) (sz : Nat) : Met l y_V_init (qs_ws y_V_init b_V_init 4 none) ({ frames := 1, cells := 0, slots := 0, locals := 12 } : Room) (va_Pc ([.ref q, .ref e1, .ref e2, .ref e3] : List Value) (fun U => U.heap.size = sz ∧ va_P (dC, dI) vwCl [(q, .inr (4, [.null, .null, .null, .int 0, .int 0, .int 0]))] U.heap ∧ va_K (dC, dI) vwCl [] U ∧ va_D (fun _ => True) [(q, .inr (4, [.null, .null, .null, .int 0, .int 0, .int 0]))] ∧ qs_N U)) (va_Qv (fun (_ : Unit) => True) (fun (_ : Unit) (t : State) => va_P (dC, dI) vwCl [(q, .inr (4, [.ref e1, .ref e2, .ref e3, .int 0, .int 0, .int 0]))] t.heap ∧ va_K (dC, dI) vwCl [] t ∧ va_D (va_A [(q, .inr (4, [.null, .null, .null, .int 0, .int 0, .int 0]))] sz) [(q, .inr (4, [.ref e1, .ref e2, .ref e3, .int 0, .int 0, .int 0]))]) (va_A [(q, .inr (4, [.null, .null, .null, .int 0, .int 0, .int 0]))] sz)) 0 0 (va_A [(q, .inr (4, [.null, .null, .null, .int 0, .int 0, .int 0]))] sz) := by
  refine Met.ofW (cc := b_V_init) (maxL := 4) (ret := none) (by decide +kernel) rfl ?_
  intro p e s m args below meth cd s₁ B hml hv
  obtain ⟨rfl, hsz, hP, hK, hD0, hNs⟩ := hv
  have hx := B.exec
  have hb := B.bytes
  have hr := B.returns
  have hts := atoms_spec (ws := (qs_ws y_V_init b_V_init 4 none)) B.pre
  have hg : ∀ w ∈ qs_gt, w.before _ s = true := fun w h => hts w (List.mem_cons_of_mem _ h)
  have hown : s.vm.findClass R_V = some m.cls := findClass_of_methodNamed B.named
  have hlocks := B.notSynchronized
  have hin : meth.name = "<init>" := (name_of_methodNamed B.named B.method).1
  subst hsz
  have hD := hD0.self (sz := s.heap.size)
  generalize hAe : va_A [(q, .inr (4, [.null, .null, .null, .int 0, .int 0, .int 0]))] s.heap.size = A at hD ⊢
  have hA : ∀ q : Nat, s.heap.size ≤ q → A q := fun q h => by rw [← hAe]; exact Or.inr h
  have hS : va_S A s.heap s.heap [] := va_S.rf
  have hl := lv_entry ([.ref q, .ref e1, .ref e2, .ref e3] : List Value) (n := 4) (Nat.le_of_ble_eq_true rfl)
  rw [lg_entry_eq]
  generalize (lg_sl ([.ref q, .ref e1, .ref e2, .ref e3] : List Value) ++ List.replicate (4 - (lg_sl ([.ref q, .ref e1, .ref e2, .ref e3] : List Value)).length) Slot.unset).toArray = ls at hl ⊢
  have hl : lv_has ls 4 [(0, .ref q), (1, .ref e1), (2, .ref e2), (3, .ref e3)] := hl
  obtain ⟨H, hHe⟩ : ∃ H, H = s.heap := ⟨_, rfl⟩
  obtain ⟨locs, hLe⟩ : ∃ L : List Loc, L = [] := ⟨_, rfl⟩
  rw [← hHe] at hP ⊢
  rw [← hLe]
  have hS : va_S A s.heap H locs := by rw [hHe, hLe]; exact hS
  refine lv_aload_n hx hb d_V_init_0 rfl (lv_at hl 0 rfl) ?_
  refine W.objInit hx hb hown (hg _ t_122) (hg _ t_22) (hg _ t_23) rfl (by rw [hml]; exact hl.1) rfl d_V_init_1 (Nat.le_of_ble_eq_true rfl) (Nat.le_of_ble_eq_true rfl) ?_
  refine W.eq (g2 := F0 m 4 ls []) rfl ?_
  refine lv_aload_n hx hb d_V_init_4 rfl (lv_at hl 0 rfl) ?_
  refine lv_aload_n hx hb d_V_init_5 rfl (lv_at hl 1 rfl) ?_
  refine va_putF (D := (dC, dI)) (ci := 4) (v := .ref e1) (ty := .object "QuakeServer$Entities") (C := R_V) (T := T_V) (N := 6) hx hb hg in_V ty_V ty_V_ok nm_V hown hK hP hD hS 0 rfl rfl 0 (by decide) (hg _ t_123) (fun _ h9 => h9) rfl hin rfl (by decide +kernel) rfl rfl (Nat.le_of_ble_eq_true rfl) d_V_init_6 (fun H locs hP hD hS => ?_)
  have hP : va_P (dC, dI) vwCl [(q, .inr (4, [.ref e1, .null, .null, .int 0, .int 0, .int 0]))] H := hP
  have hD : va_D A [(q, .inr (4, [.ref e1, .null, .null, .int 0, .int 0, .int 0]))] := hD
  refine lv_aload_n hx hb d_V_init_9 rfl (lv_at hl 0 rfl) ?_
  refine lv_aload_n hx hb d_V_init_10 rfl (lv_at hl 2 rfl) ?_
  refine va_putF (D := (dC, dI)) (ci := 4) (v := .ref e2) (ty := .object "QuakeServer$Walls") (C := R_V) (T := T_V) (N := 6) hx hb hg in_V ty_V ty_V_ok nm_V hown hK hP hD hS 0 rfl rfl 1 (by decide) (hg _ t_124) (fun _ h9 => h9) rfl hin rfl (by decide +kernel) rfl rfl (Nat.le_of_ble_eq_true rfl) d_V_init_11 (fun H locs hP hD hS => ?_)
  have hP : va_P (dC, dI) vwCl [(q, .inr (4, [.ref e1, .ref e2, .null, .int 0, .int 0, .int 0]))] H := hP
  have hD : va_D A [(q, .inr (4, [.ref e1, .ref e2, .null, .int 0, .int 0, .int 0]))] := hD
  refine lv_aload_n hx hb d_V_init_14 rfl (lv_at hl 0 rfl) ?_
  refine lv_aload_n hx hb d_V_init_15 rfl (lv_at hl 3 rfl) ?_
  refine va_putF (D := (dC, dI)) (ci := 4) (v := .ref e3) (ty := .object "QuakeServer$Machine") (C := R_V) (T := T_V) (N := 6) hx hb hg in_V ty_V ty_V_ok nm_V hown hK hP hD hS 0 rfl rfl 2 (by decide) (hg _ t_125) (fun _ h9 => h9) rfl hin rfl (by decide +kernel) rfl rfl (Nat.le_of_ble_eq_true rfl) d_V_init_16 (fun H locs hP hD hS => ?_)
  have hP : va_P (dC, dI) vwCl [(q, .inr (4, [.ref e1, .ref e2, .ref e3, .int 0, .int 0, .int 0]))] H := hP
  have hD : va_D A [(q, .inr (4, [.ref e1, .ref e2, .ref e3, .int 0, .int 0, .int 0]))] := hD
  refine W.widen (k := 0) (n := 0) (Nat.le_of_ble_eq_true rfl) (Nat.le_of_ble_eq_true rfl) ?_
  exact W.vret hx hb hr (fun t ht hW => ⟨⟨(), rfl, trivial, by rw [ht]; exact hP, va_K.moved hW.alike hK, hD⟩, hS.F ht⟩) hS.2.2 d_V_init_19

theorem d_L_init_0 : decode b_L_init 0 = .ok (.aload_n 0, 1) := by decide +kernel
theorem d_L_init_1 : decode b_L_init 1 = .ok (.invokespecial 3, 3) := by decide +kernel
theorem d_L_init_4 : decode b_L_init 4 = .ok (.aload_n 0, 1) := by decide +kernel
theorem d_L_init_5 : decode b_L_init 5 = .ok (.sipush 192, 3) := by decide +kernel
theorem d_L_init_8 : decode b_L_init 8 = .ok (.newarray .int, 2) := by decide +kernel
theorem d_L_init_10 : decode b_L_init 10 = .ok (.putfield 9, 3) := by decide +kernel
theorem d_L_init_13 : decode b_L_init 13 = .ok (.aload_n 0, 1) := by decide +kernel
theorem d_L_init_14 : decode b_L_init 14 = .ok (.aload_n 1, 1) := by decide +kernel
theorem d_L_init_15 : decode b_L_init 15 = .ok (.putfield 15, 3) := by decide +kernel
theorem d_L_init_18 : decode b_L_init 18 = .ok (.return_, 1) := by decide +kernel
set_option maxHeartbeats 4000000 in
set_option maxRecDepth 100000 in
theorem c_L_init (l : Launch) (dC : Nat → ClassId) (dI : Nat → Nat → Nat) (q e1 : Nat) (sz : Nat) : Met l y_L_init (qs_ws y_L_init b_L_init 2 none) ({ frames := 1, cells := 1, slots := 192, locals := 12 } : Room) (va_Pc ([.ref q, .ref e1] : List Value) (fun U => U.heap.size = sz ∧ va_P (dC, dI) vwCl [(q, .inr (5, [.null, .null]))] U.heap ∧ va_K (dC, dI) vwCl [] U ∧ va_D (fun _ => True) [(q, .inr (5, [.null, .null]))] ∧ qs_N U)) (va_Qv (fun (_ : Unit) => True) (fun (_ : Unit) (t : State) => ∃ (a1 : Nat) (k1 : ClassId), va_P (dC, dI) vwCl [(q, .inr (5, [.ref e1, .ref a1])), (a1, .inl (k1, 192, .inl (fun _ => 0)))] t.heap ∧ va_K (dC, dI) vwCl [(k1, .int)] t ∧ va_D (va_A [(q, .inr (5, [.null, .null]))] sz) [(q, .inr (5, [.ref e1, .ref a1])), (a1, .inl (k1, 192, .inl (fun _ => 0)))]) (va_A [(q, .inr (5, [.null, .null]))] sz)) 1 192 (va_A [(q, .inr (5, [.null, .null]))] sz) := by
  refine Met.ofW (cc := b_L_init) (maxL := 2) (ret := none) (by decide +kernel) rfl ?_
  intro p e s m args below meth cd s₁ B hml hv
  obtain ⟨rfl, hsz, hP, hK, hD0, hNs⟩ := hv
  have hx := B.exec
  have hb := B.bytes
  have hr := B.returns
  have hts := atoms_spec (ws := (qs_ws y_L_init b_L_init 2 none)) B.pre
  have hg : ∀ w ∈ qs_gt, w.before _ s = true := fun w h => hts w (List.mem_cons_of_mem _ h)
  have hown : s.vm.findClass R_L = some m.cls := findClass_of_methodNamed B.named
  have hlocks := B.notSynchronized
  have hin : meth.name = "<init>" := (name_of_methodNamed B.named B.method).1
  subst hsz
  have hD := hD0.self (sz := s.heap.size)
  generalize hAe : va_A [(q, .inr (5, [.null, .null]))] s.heap.size = A at hD ⊢
  have hA : ∀ q : Nat, s.heap.size ≤ q → A q := fun q h => by rw [← hAe]; exact Or.inr h
  have hS : va_S A s.heap s.heap [] := va_S.rf
  have hl := lv_entry ([.ref q, .ref e1] : List Value) (n := 2) (Nat.le_of_ble_eq_true rfl)
  rw [lg_entry_eq]
  generalize (lg_sl ([.ref q, .ref e1] : List Value) ++ List.replicate (2 - (lg_sl ([.ref q, .ref e1] : List Value)).length) Slot.unset).toArray = ls at hl ⊢
  have hl : lv_has ls 2 [(0, .ref q), (1, .ref e1)] := hl
  obtain ⟨H, hHe⟩ : ∃ H, H = s.heap := ⟨_, rfl⟩
  obtain ⟨locs, hLe⟩ : ∃ L : List Loc, L = [] := ⟨_, rfl⟩
  rw [← hHe] at hP ⊢
  rw [← hLe]
  have hS : va_S A s.heap H locs := by rw [hHe, hLe]; exact hS
  refine lv_aload_n hx hb d_L_init_0 rfl (lv_at hl 0 rfl) ?_
  refine W.objInit hx hb hown (hg _ t_148) (hg _ t_22) (hg _ t_23) rfl (by rw [hml]; exact hl.1) rfl d_L_init_1 (Nat.le_of_ble_eq_true rfl) (Nat.le_of_ble_eq_true rfl) ?_
  refine W.eq (g2 := F0 m 4 ls []) rfl ?_
  refine lv_aload_n hx hb d_L_init_4 rfl (lv_at hl 0 rfl) ?_
  refine lv_sipush (v := 192) hx hb d_L_init_5 (by decide) ?_
  refine va_newa (atype := .int) (ty := .int) (a0 := (192, .inl (fun _ => 0))) hx hb (hg _ t_38) rfl hK hP hD hS hA (fun _ => rfl) (by decide) (by decide) (by decide) (Nat.le_of_ble_eq_true rfl) (Nat.le_of_ble_eq_true rfl) d_L_init_8 (fun a1 k1 H hK hP hD hS => ?_)
  have hP : va_P (dC, dI) vwCl [(q, .inr (5, [.null, .null])), (a1, .inl (k1, 192, .inl (fun _ => 0)))] H := hP
  have hD : va_D A [(q, .inr (5, [.null, .null])), (a1, .inl (k1, 192, .inl (fun _ => 0)))] := hD
  have hK : va_K (dC, dI) vwCl [(k1, .int)] s := hK
  refine va_putF (D := (dC, dI)) (ci := 5) (v := .ref a1) (ty := .array .int) (C := R_L) (T := T_L) (N := 2) hx hb hg in_L ty_L ty_L_ok nm_L hown hK hP hD hS 0 rfl rfl 1 (by decide) (hg _ t_150) (fun _ h9 => h9) rfl hin rfl (by decide +kernel) rfl rfl (Nat.le_of_ble_eq_true rfl) d_L_init_10 (fun H locs hP hD hS => ?_)
  have hP : va_P (dC, dI) vwCl [(q, .inr (5, [.null, .ref a1])), (a1, .inl (k1, 192, .inl (fun _ => 0)))] H := hP
  have hD : va_D A [(q, .inr (5, [.null, .ref a1])), (a1, .inl (k1, 192, .inl (fun _ => 0)))] := hD
  refine lv_aload_n hx hb d_L_init_13 rfl (lv_at hl 0 rfl) ?_
  refine lv_aload_n hx hb d_L_init_14 rfl (lv_at hl 1 rfl) ?_
  refine va_putF (D := (dC, dI)) (ci := 5) (v := .ref e1) (ty := .object "QuakeServer$Entities") (C := R_L) (T := T_L) (N := 2) hx hb hg in_L ty_L ty_L_ok nm_L hown hK hP hD hS 0 rfl rfl 0 (by decide) (hg _ t_149) (fun _ h9 => h9) rfl hin rfl (by decide +kernel) rfl rfl (Nat.le_of_ble_eq_true rfl) d_L_init_15 (fun H locs hP hD hS => ?_)
  have hP : va_P (dC, dI) vwCl [(q, .inr (5, [.ref e1, .ref a1])), (a1, .inl (k1, 192, .inl (fun _ => 0)))] H := hP
  have hD : va_D A [(q, .inr (5, [.ref e1, .ref a1])), (a1, .inl (k1, 192, .inl (fun _ => 0)))] := hD
  refine W.widen (k := 1) (n := 192) (Nat.le_of_ble_eq_true rfl) (Nat.le_of_ble_eq_true rfl) ?_
  exact W.vret hx hb hr (fun t ht hW => ⟨⟨(), rfl, trivial, a1, k1, by rw [ht]; exact hP, va_K.moved hW.alike hK, hD⟩, hS.F ht⟩) hS.2.2 d_L_init_18

theorem d_Q_init_0 : decode b_Q_init 0 = .ok (.aload_n 0, 1) := by decide +kernel
theorem d_Q_init_1 : decode b_Q_init 1 = .ok (.invokespecial 3, 3) := by decide +kernel
theorem d_Q_init_4 : decode b_Q_init 4 = .ok (.aload_n 0, 1) := by decide +kernel
theorem d_Q_init_5 : decode b_Q_init 5 = .ok (.new 9, 3) := by decide +kernel
theorem d_Q_init_8 : decode b_Q_init 8 = .ok (.dup, 1) := by decide +kernel
theorem d_Q_init_9 : decode b_Q_init 9 = .ok (.invokespecial 11, 3) := by decide +kernel
theorem d_Q_init_12 : decode b_Q_init 12 = .ok (.putfield 12, 3) := by decide +kernel
theorem d_Q_init_15 : decode b_Q_init 15 = .ok (.aload_n 0, 1) := by decide +kernel
theorem d_Q_init_16 : decode b_Q_init 16 = .ok (.new 16, 3) := by decide +kernel
theorem d_Q_init_19 : decode b_Q_init 19 = .ok (.dup, 1) := by decide +kernel
theorem d_Q_init_20 : decode b_Q_init 20 = .ok (.invokespecial 18, 3) := by decide +kernel
theorem d_Q_init_23 : decode b_Q_init 23 = .ok (.putfield 19, 3) := by decide +kernel
theorem d_Q_init_26 : decode b_Q_init 26 = .ok (.aload_n 0, 1) := by decide +kernel
theorem d_Q_init_27 : decode b_Q_init 27 = .ok (.new 23, 3) := by decide +kernel
theorem d_Q_init_30 : decode b_Q_init 30 = .ok (.dup, 1) := by decide +kernel
theorem d_Q_init_31 : decode b_Q_init 31 = .ok (.invokespecial 25, 3) := by decide +kernel
theorem d_Q_init_34 : decode b_Q_init 34 = .ok (.putfield 26, 3) := by decide +kernel
theorem d_Q_init_37 : decode b_Q_init 37 = .ok (.aload_n 0, 1) := by decide +kernel
theorem d_Q_init_38 : decode b_Q_init 38 = .ok (.new 30, 3) := by decide +kernel
theorem d_Q_init_41 : decode b_Q_init 41 = .ok (.dup, 1) := by decide +kernel
theorem d_Q_init_42 : decode b_Q_init 42 = .ok (.aload_n 0, 1) := by decide +kernel
theorem d_Q_init_43 : decode b_Q_init 43 = .ok (.getfield 12, 3) := by decide +kernel
theorem d_Q_init_46 : decode b_Q_init 46 = .ok (.aload_n 0, 1) := by decide +kernel
theorem d_Q_init_47 : decode b_Q_init 47 = .ok (.getfield 26, 3) := by decide +kernel
theorem d_Q_init_50 : decode b_Q_init 50 = .ok (.invokespecial 32, 3) := by decide +kernel
theorem d_Q_init_53 : decode b_Q_init 53 = .ok (.putfield 35, 3) := by decide +kernel
theorem d_Q_init_56 : decode b_Q_init 56 = .ok (.aload_n 0, 1) := by decide +kernel
theorem d_Q_init_57 : decode b_Q_init 57 = .ok (.new 39, 3) := by decide +kernel
theorem d_Q_init_60 : decode b_Q_init 60 = .ok (.dup, 1) := by decide +kernel
theorem d_Q_init_61 : decode b_Q_init 61 = .ok (.aload_n 0, 1) := by decide +kernel
theorem d_Q_init_62 : decode b_Q_init 62 = .ok (.getfield 12, 3) := by decide +kernel
theorem d_Q_init_65 : decode b_Q_init 65 = .ok (.aload_n 0, 1) := by decide +kernel
theorem d_Q_init_66 : decode b_Q_init 66 = .ok (.getfield 19, 3) := by decide +kernel
theorem d_Q_init_69 : decode b_Q_init 69 = .ok (.aload_n 0, 1) := by decide +kernel
theorem d_Q_init_70 : decode b_Q_init 70 = .ok (.getfield 35, 3) := by decide +kernel
theorem d_Q_init_73 : decode b_Q_init 73 = .ok (.invokespecial 41, 3) := by decide +kernel
theorem d_Q_init_76 : decode b_Q_init 76 = .ok (.putfield 44, 3) := by decide +kernel
theorem d_Q_init_79 : decode b_Q_init 79 = .ok (.aload_n 0, 1) := by decide +kernel
theorem d_Q_init_80 : decode b_Q_init 80 = .ok (.new 48, 3) := by decide +kernel
theorem d_Q_init_83 : decode b_Q_init 83 = .ok (.dup, 1) := by decide +kernel
theorem d_Q_init_84 : decode b_Q_init 84 = .ok (.aload_n 0, 1) := by decide +kernel
theorem d_Q_init_85 : decode b_Q_init 85 = .ok (.getfield 12, 3) := by decide +kernel
theorem d_Q_init_88 : decode b_Q_init 88 = .ok (.invokespecial 50, 3) := by decide +kernel
theorem d_Q_init_91 : decode b_Q_init 91 = .ok (.putfield 53, 3) := by decide +kernel
theorem d_Q_init_94 : decode b_Q_init 94 = .ok (.return_, 1) := by decide +kernel
set_option maxHeartbeats 4000000 in
set_option maxRecDepth 100000 in
theorem c_Q_init (l : Launch) (dC : Nat → ClassId) (dI : Nat → Nat → Nat) (q  : Nat) (sz : Nat) : Met l y_Q_init (qs_ws y_Q_init b_Q_init 1 none) ({ frames := 2, cells := 16, slots := 824, locals := 35 } : Room) (va_Pc ([.ref q] : List Value) (fun U => U.heap.size = sz ∧ va_P (dC, dI) vwCl [(q, .inr (6, [.null, .null, .null, .null, .null, .null]))] U.heap ∧ va_K (dC, dI) vwCl [] U ∧ va_D (fun _ => True) [(q, .inr (6, [.null, .null, .null, .null, .null, .null]))] ∧ qs_N U)) (va_Qv (fun (_ : Unit) => True) (fun (_ : Unit) (t : State) => ∃ (a1 a1_2 a2_2 a3 a1_4 a2_4 a5 a1_6 a2_6 a7 a1_8 a2_8 a3_8 a9 a11 a1_12 : Nat) (k1_2 k2_2 k1_4 k2_4 k1_6 k2_6 k1_8 k2_8 k3_8 k1_12 : ClassId), va_P (dC, dI) vwCl [(q, .inr (6, [.ref a1, .ref a3, .ref a5, .ref a7, .ref a9, .ref a11])), (a1, .inr (0, [.ref a1_2, .ref a2_2])), (a1_2, .inl (k1_2, 12, .inl (fun _ => 0))), (a2_2, .inl (k2_2, 192, .inl (fun _ => 0))), (a3, .inr (1, [.ref a1_4, .ref a2_4, .int 0])), (a1_4, .inl (k1_4, 12, .inl (fun _ => 0))), (a2_4, .inl (k2_4, 12, .inl (fun _ => 0))), (a5, .inr (2, [.ref a1_6, .ref a2_6])), (a1_6, .inl (k1_6, 336, .inl (fun _ => 0))), (a2_6, .inl (k2_6, 6, .inl (fun _ => 0))), (a7, .inr (3, [.ref a1, .ref a5, .ref a1_8, .ref a2_8, .ref a3_8, .int 0, .int 0, .int 0, .int 1, .int 0, .int 0])), (a1_8, .inl (k1_8, 24, .inl (fun _ => 0))), (a2_8, .inl (k2_8, 6, .inl (fun _ => 0))), (a3_8, .inl (k3_8, 6, .inl (fun _ => 0))), (a9, .inr (4, [.ref a1, .ref a3, .ref a7, .int 0, .int 0, .int 0])), (a11, .inr (5, [.ref a1, .ref a1_12])), (a1_12, .inl (k1_12, 192, .inl (fun _ => 0)))] t.heap ∧ va_K (dC, dI) vwCl [(k1_2, .boolean), (k2_2, .int), (k1_4, .int), (k2_4, .int), (k1_6, .int), (k2_6, .int), (k1_8, .int), (k2_8, .int), (k3_8, .int), (k1_12, .int)] t ∧ va_D (va_A [(q, .inr (6, [.null, .null, .null, .null, .null, .null]))] sz) [(q, .inr (6, [.ref a1, .ref a3, .ref a5, .ref a7, .ref a9, .ref a11])), (a1, .inr (0, [.ref a1_2, .ref a2_2])), (a1_2, .inl (k1_2, 12, .inl (fun _ => 0))), (a2_2, .inl (k2_2, 192, .inl (fun _ => 0))), (a3, .inr (1, [.ref a1_4, .ref a2_4, .int 0])), (a1_4, .inl (k1_4, 12, .inl (fun _ => 0))), (a2_4, .inl (k2_4, 12, .inl (fun _ => 0))), (a5, .inr (2, [.ref a1_6, .ref a2_6])), (a1_6, .inl (k1_6, 336, .inl (fun _ => 0))), (a2_6, .inl (k2_6, 6, .inl (fun _ => 0))), (a7, .inr (3, [.ref a1, .ref a5, .ref a1_8, .ref a2_8, .ref a3_8, .int 0, .int 0, .int 0, .int 1, .int 0, .int 0])), (a1_8, .inl (k1_8, 24, .inl (fun _ => 0))), (a2_8, .inl (k2_8, 6, .inl (fun _ => 0))), (a3_8, .inl (k3_8, 6, .inl (fun _ => 0))), (a9, .inr (4, [.ref a1, .ref a3, .ref a7, .int 0, .int 0, .int 0])), (a11, .inr (5, [.ref a1, .ref a1_12])), (a1_12, .inl (k1_12, 192, .inl (fun _ => 0)))]) (va_A [(q, .inr (6, [.null, .null, .null, .null, .null, .null]))] sz)) 16 824 (va_A [(q, .inr (6, [.null, .null, .null, .null, .null, .null]))] sz) := by
  refine Met.ofW (cc := b_Q_init) (maxL := 1) (ret := none) (by decide +kernel) rfl ?_
  intro p e s m args below meth cd s₁ B hml hv
  obtain ⟨rfl, hsz, hP, hK, hD0, hNs⟩ := hv
  have hx := B.exec
  have hb := B.bytes
  have hr := B.returns
  have hts := atoms_spec (ws := (qs_ws y_Q_init b_Q_init 1 none)) B.pre
  have hg : ∀ w ∈ qs_gt, w.before _ s = true := fun w h => hts w (List.mem_cons_of_mem _ h)
  have hown : s.vm.findClass R_Q = some m.cls := findClass_of_methodNamed B.named
  have hlocks := B.notSynchronized
  have hin : meth.name = "<init>" := (name_of_methodNamed B.named B.method).1
  subst hsz
  have hD := hD0.self (sz := s.heap.size)
  generalize hAe : va_A [(q, .inr (6, [.null, .null, .null, .null, .null, .null]))] s.heap.size = A at hD ⊢
  have hA : ∀ q : Nat, s.heap.size ≤ q → A q := fun q h => by rw [← hAe]; exact Or.inr h
  have hS : va_S A s.heap s.heap [] := va_S.rf
  have hl := lv_entry ([.ref q] : List Value) (n := 1) (Nat.le_of_ble_eq_true rfl)
  rw [lg_entry_eq]
  generalize (lg_sl ([.ref q] : List Value) ++ List.replicate (1 - (lg_sl ([.ref q] : List Value)).length) Slot.unset).toArray = ls at hl ⊢
  have hl : lv_has ls 1 [(0, .ref q)] := hl
  obtain ⟨H, hHe⟩ : ∃ H, H = s.heap := ⟨_, rfl⟩
  obtain ⟨locs, hLe⟩ : ∃ L : List Loc, L = [] := ⟨_, rfl⟩
  rw [← hHe] at hP ⊢
  rw [← hLe]
  have hS : va_S A s.heap H locs := by rw [hHe, hLe]; exact hS
  refine lv_aload_n hx hb d_Q_init_0 rfl (lv_at hl 0 rfl) ?_
  refine W.objInit hx hb hown (hg _ t_21) (hg _ t_22) (hg _ t_23) rfl (by rw [hml]; exact hl.1) rfl d_Q_init_1 (Nat.le_of_ble_eq_true rfl) (Nat.le_of_ble_eq_true rfl) ?_
  refine W.eq (g2 := F0 m 4 ls []) rfl ?_
  refine lv_aload_n hx hb d_Q_init_4 rfl (lv_at hl 0 rfl) ?_
  refine va_new (ci := 0) (fs := [.null, .null]) (C := R_E) (T := T_E) (N := 2) hx hb hg in_E ty_E ty_E_ok hown (hg _ t_24) (hg _ t_25) (hg _ t_2) hK hP hD hS hA rfl (fun j hj => by rcases (show j = 0 ∨ j = 1 by omega) with rfl | rfl <;> rfl) (Nat.le_of_ble_eq_true rfl) (Nat.le_of_ble_eq_true rfl) d_Q_init_5 (fun a1 H hP hD hS => ?_)
  have hP : va_P (dC, dI) vwCl [(q, .inr (6, [.null, .null, .null, .null, .null, .null])), (a1, .inr (0, [.null, .null]))] H := hP
  have hD : va_D A [(q, .inr (6, [.null, .null, .null, .null, .null, .null])), (a1, .inr (0, [.null, .null]))] := hD
  refine lv_dup hx hb d_Q_init_8 rfl ?_
  have hPc := hP.sub (ws' := [(a1, .inr (0, [.null, .null]))]) [1] rfl
  have hDc := hD.sub (ws' := [(a1, .inr (0, [.null, .null]))]) [1] (by decide) rfl
  have hKc := hK.sub (tys' := []) [] rfl
  have hFc := va_free (wc := [(a1, .inr (0, [.null, .null]))]) hD hS hA [1] rfl
  refine va_callv (va_runIN (own := "QuakeServer") (As := []) (rest := [.ref a1, .ref q]) ⟨hx, hb, hml, hown, hg⟩ (c_E_init l dC dI a1  H.size) ⟨va_cnB (own := "QuakeServer") (index := 11) (host := "QuakeServer") 0 hg (qs_gc t_28) rfl rfl rfl (nM_0 hNs) (hg _ t_2) (by decide +kernel) ⟨Nat.le_of_ble_eq_true rfl, Nat.le_of_ble_eq_true rfl⟩, rfl, hg _ t_27⟩ ⟨qs_blind, fun U hU hW => ⟨rfl, by rw [hU], by rw [hU]; exact hPc, va_K.moved hW.alike hKc, hDc.weaken (fun _ _ _ _ => trivial), hNs.warm hW⟩⟩ rfl rfl hl.1 rfl (lv_room (Nat.le_of_ble_eq_true rfl)) d_Q_init_9 ⟨Nat.le_of_ble_eq_true rfl, Nat.le_of_ble_eq_true rfl⟩) hS (fun q _ h => hFc q h) hFc (fun u t H1 locs ht hvm hw hB hz1 hk1 hS => ?_)
  obtain ⟨a1_2, a2_2, k1_2, k2_2, hP1, hK1, hD1⟩ := hB
  rw [ht] at hP1
  have hK1 := va_K.moved hvm.symm hK1
  obtain ⟨hP, hD⟩ := va_join (wr := [(q, .inr (6, [.null, .null, .null, .null, .null, .null]))]) (w1 := [(a1, .inr (0, [.ref a1_2, .ref a2_2])), (a1_2, .inl (k1_2, 12, .inl (fun _ => 0))), (a2_2, .inl (k2_2, 192, .inl (fun _ => 0)))]) hP hD [1] [0] rfl rfl (by decide) (by decide) hk1 hFc hP1 hD1
  have hK := (hK.sub (tys' := []) [] rfl).app hK1
  generalize H1 = H at hP hS ⊢
  have hP : va_P (dC, dI) vwCl [(q, .inr (6, [.null, .null, .null, .null, .null, .null])), (a1, .inr (0, [.ref a1_2, .ref a2_2])), (a1_2, .inl (k1_2, 12, .inl (fun _ => 0))), (a2_2, .inl (k2_2, 192, .inl (fun _ => 0)))] H := hP
  have hD : va_D A [(q, .inr (6, [.null, .null, .null, .null, .null, .null])), (a1, .inr (0, [.ref a1_2, .ref a2_2])), (a1_2, .inl (k1_2, 12, .inl (fun _ => 0))), (a2_2, .inl (k2_2, 192, .inl (fun _ => 0)))] := hD
  have hK : va_K (dC, dI) vwCl [(k1_2, .boolean), (k2_2, .int)] s := hK
  refine va_putF (D := (dC, dI)) (ci := 6) (v := .ref a1) (ty := .object "QuakeServer$Entities") (C := R_Q) (T := T_Q) (N := 6) hx hb hg in_Q ty_Q ty_Q_ok nm_Q hown hK hP hD hS 0 rfl rfl 0 (by decide) (hg _ t_156) (fun _ h9 => h9) rfl hin rfl (by decide +kernel) rfl rfl (Nat.le_of_ble_eq_true rfl) d_Q_init_12 (fun H locs hP hD hS => ?_)
  have hP : va_P (dC, dI) vwCl [(q, .inr (6, [.ref a1, .null, .null, .null, .null, .null])), (a1, .inr (0, [.ref a1_2, .ref a2_2])), (a1_2, .inl (k1_2, 12, .inl (fun _ => 0))), (a2_2, .inl (k2_2, 192, .inl (fun _ => 0)))] H := hP
  have hD : va_D A [(q, .inr (6, [.ref a1, .null, .null, .null, .null, .null])), (a1, .inr (0, [.ref a1_2, .ref a2_2])), (a1_2, .inl (k1_2, 12, .inl (fun _ => 0))), (a2_2, .inl (k2_2, 192, .inl (fun _ => 0)))] := hD
  refine lv_aload_n hx hb d_Q_init_15 rfl (lv_at hl 0 rfl) ?_
  refine va_new (ci := 1) (fs := [.null, .null, .int 0]) (C := R_W) (T := T_W) (N := 3) hx hb hg in_W ty_W ty_W_ok hown (hg _ t_39) (hg _ t_40) (hg _ t_3) hK hP hD hS hA rfl (fun j hj => by rcases (show j = 0 ∨ j = 1 ∨ j = 2 by omega) with rfl | rfl | rfl <;> rfl) (Nat.le_of_ble_eq_true rfl) (Nat.le_of_ble_eq_true rfl) d_Q_init_16 (fun a3 H hP hD hS => ?_)
  have hP : va_P (dC, dI) vwCl [(q, .inr (6, [.ref a1, .null, .null, .null, .null, .null])), (a1, .inr (0, [.ref a1_2, .ref a2_2])), (a1_2, .inl (k1_2, 12, .inl (fun _ => 0))), (a2_2, .inl (k2_2, 192, .inl (fun _ => 0))), (a3, .inr (1, [.null, .null, .int 0]))] H := hP
  have hD : va_D A [(q, .inr (6, [.ref a1, .null, .null, .null, .null, .null])), (a1, .inr (0, [.ref a1_2, .ref a2_2])), (a1_2, .inl (k1_2, 12, .inl (fun _ => 0))), (a2_2, .inl (k2_2, 192, .inl (fun _ => 0))), (a3, .inr (1, [.null, .null, .int 0]))] := hD
  refine lv_dup hx hb d_Q_init_19 rfl ?_
  have hPc := hP.sub (ws' := [(a3, .inr (1, [.null, .null, .int 0]))]) [4] rfl
  have hDc := hD.sub (ws' := [(a3, .inr (1, [.null, .null, .int 0]))]) [4] (by decide) rfl
  have hKc := hK.sub (tys' := []) [] rfl
  have hFc := va_free (wc := [(a3, .inr (1, [.null, .null, .int 0]))]) hD hS hA [4] rfl
  refine va_callv (va_runIN (own := "QuakeServer") (As := []) (rest := [.ref a3, .ref q]) ⟨hx, hb, hml, hown, hg⟩ (c_W_init l dC dI a3  H.size) ⟨va_cnB (own := "QuakeServer") (index := 18) (host := "QuakeServer") 0 hg (qs_gc t_43) rfl rfl rfl (nM_1 hNs) (hg _ t_3) (by decide +kernel) ⟨Nat.le_of_ble_eq_true rfl, Nat.le_of_ble_eq_true rfl⟩, rfl, hg _ t_42⟩ ⟨qs_blind, fun U hU hW => ⟨rfl, by rw [hU], by rw [hU]; exact hPc, va_K.moved hW.alike hKc, hDc.weaken (fun _ _ _ _ => trivial), hNs.warm hW⟩⟩ rfl rfl hl.1 rfl (lv_room (Nat.le_of_ble_eq_true rfl)) d_Q_init_20 ⟨Nat.le_of_ble_eq_true rfl, Nat.le_of_ble_eq_true rfl⟩) hS (fun q _ h => hFc q h) hFc (fun u t H1 locs ht hvm hw hB hz1 hk1 hS => ?_)
  obtain ⟨a1_4, a2_4, k1_4, k2_4, hP1, hK1, hD1⟩ := hB
  rw [ht] at hP1
  have hK1 := va_K.moved hvm.symm hK1
  obtain ⟨hP, hD⟩ := va_join (wr := [(q, .inr (6, [.ref a1, .null, .null, .null, .null, .null])), (a1, .inr (0, [.ref a1_2, .ref a2_2])), (a1_2, .inl (k1_2, 12, .inl (fun _ => 0))), (a2_2, .inl (k2_2, 192, .inl (fun _ => 0)))]) (w1 := [(a3, .inr (1, [.ref a1_4, .ref a2_4, .int 0])), (a1_4, .inl (k1_4, 12, .inl (fun _ => 0))), (a2_4, .inl (k2_4, 12, .inl (fun _ => 0)))]) hP hD [4] [0, 1, 2, 3] rfl rfl (by decide) (by decide) hk1 hFc hP1 hD1
  have hK := (hK.sub (tys' := [(k1_2, .boolean), (k2_2, .int)]) [0, 1] rfl).app hK1
  generalize H1 = H at hP hS ⊢
  have hP : va_P (dC, dI) vwCl [(q, .inr (6, [.ref a1, .null, .null, .null, .null, .null])), (a1, .inr (0, [.ref a1_2, .ref a2_2])), (a1_2, .inl (k1_2, 12, .inl (fun _ => 0))), (a2_2, .inl (k2_2, 192, .inl (fun _ => 0))), (a3, .inr (1, [.ref a1_4, .ref a2_4, .int 0])), (a1_4, .inl (k1_4, 12, .inl (fun _ => 0))), (a2_4, .inl (k2_4, 12, .inl (fun _ => 0)))] H := hP
  have hD : va_D A [(q, .inr (6, [.ref a1, .null, .null, .null, .null, .null])), (a1, .inr (0, [.ref a1_2, .ref a2_2])), (a1_2, .inl (k1_2, 12, .inl (fun _ => 0))), (a2_2, .inl (k2_2, 192, .inl (fun _ => 0))), (a3, .inr (1, [.ref a1_4, .ref a2_4, .int 0])), (a1_4, .inl (k1_4, 12, .inl (fun _ => 0))), (a2_4, .inl (k2_4, 12, .inl (fun _ => 0)))] := hD
  have hK : va_K (dC, dI) vwCl [(k1_2, .boolean), (k2_2, .int), (k1_4, .int), (k2_4, .int)] s := hK
  refine va_putF (D := (dC, dI)) (ci := 6) (v := .ref a3) (ty := .object "QuakeServer$Walls") (C := R_Q) (T := T_Q) (N := 6) hx hb hg in_Q ty_Q ty_Q_ok nm_Q hown hK hP hD hS 0 rfl rfl 1 (by decide) (hg _ t_157) (fun _ h9 => h9) rfl hin rfl (by decide +kernel) rfl rfl (Nat.le_of_ble_eq_true rfl) d_Q_init_23 (fun H locs hP hD hS => ?_)
  have hP : va_P (dC, dI) vwCl [(q, .inr (6, [.ref a1, .ref a3, .null, .null, .null, .null])), (a1, .inr (0, [.ref a1_2, .ref a2_2])), (a1_2, .inl (k1_2, 12, .inl (fun _ => 0))), (a2_2, .inl (k2_2, 192, .inl (fun _ => 0))), (a3, .inr (1, [.ref a1_4, .ref a2_4, .int 0])), (a1_4, .inl (k1_4, 12, .inl (fun _ => 0))), (a2_4, .inl (k2_4, 12, .inl (fun _ => 0)))] H := hP
  have hD : va_D A [(q, .inr (6, [.ref a1, .ref a3, .null, .null, .null, .null])), (a1, .inr (0, [.ref a1_2, .ref a2_2])), (a1_2, .inl (k1_2, 12, .inl (fun _ => 0))), (a2_2, .inl (k2_2, 192, .inl (fun _ => 0))), (a3, .inr (1, [.ref a1_4, .ref a2_4, .int 0])), (a1_4, .inl (k1_4, 12, .inl (fun _ => 0))), (a2_4, .inl (k2_4, 12, .inl (fun _ => 0)))] := hD
  refine lv_aload_n hx hb d_Q_init_26 rfl (lv_at hl 0 rfl) ?_
  refine va_new (ci := 2) (fs := [.null, .null]) (C := R_P) (T := T_P) (N := 2) hx hb hg in_P ty_P ty_P_ok hown (hg _ t_57) (hg _ t_58) (hg _ t_4) hK hP hD hS hA rfl (fun j hj => by rcases (show j = 0 ∨ j = 1 by omega) with rfl | rfl <;> rfl) (Nat.le_of_ble_eq_true rfl) (Nat.le_of_ble_eq_true rfl) d_Q_init_27 (fun a5 H hP hD hS => ?_)
  have hP : va_P (dC, dI) vwCl [(q, .inr (6, [.ref a1, .ref a3, .null, .null, .null, .null])), (a1, .inr (0, [.ref a1_2, .ref a2_2])), (a1_2, .inl (k1_2, 12, .inl (fun _ => 0))), (a2_2, .inl (k2_2, 192, .inl (fun _ => 0))), (a3, .inr (1, [.ref a1_4, .ref a2_4, .int 0])), (a1_4, .inl (k1_4, 12, .inl (fun _ => 0))), (a2_4, .inl (k2_4, 12, .inl (fun _ => 0))), (a5, .inr (2, [.null, .null]))] H := hP
  have hD : va_D A [(q, .inr (6, [.ref a1, .ref a3, .null, .null, .null, .null])), (a1, .inr (0, [.ref a1_2, .ref a2_2])), (a1_2, .inl (k1_2, 12, .inl (fun _ => 0))), (a2_2, .inl (k2_2, 192, .inl (fun _ => 0))), (a3, .inr (1, [.ref a1_4, .ref a2_4, .int 0])), (a1_4, .inl (k1_4, 12, .inl (fun _ => 0))), (a2_4, .inl (k2_4, 12, .inl (fun _ => 0))), (a5, .inr (2, [.null, .null]))] := hD
  refine lv_dup hx hb d_Q_init_30 rfl ?_
  have hPc := hP.sub (ws' := [(a5, .inr (2, [.null, .null]))]) [7] rfl
  have hDc := hD.sub (ws' := [(a5, .inr (2, [.null, .null]))]) [7] (by decide) rfl
  have hKc := hK.sub (tys' := []) [] rfl
  have hFc := va_free (wc := [(a5, .inr (2, [.null, .null]))]) hD hS hA [7] rfl
  refine va_callv (va_runIN (own := "QuakeServer") (As := []) (rest := [.ref a5, .ref q]) ⟨hx, hb, hml, hown, hg⟩ (c_P_init l dC dI a5  H.size) ⟨va_cnB (own := "QuakeServer") (index := 25) (host := "QuakeServer") 0 hg (qs_gc t_61) rfl rfl rfl (nM_2 hNs) (hg _ t_4) (by decide +kernel) ⟨Nat.le_of_ble_eq_true rfl, Nat.le_of_ble_eq_true rfl⟩, rfl, hg _ t_60⟩ ⟨qs_blind, fun U hU hW => ⟨rfl, by rw [hU], by rw [hU]; exact hPc, va_K.moved hW.alike hKc, hDc.weaken (fun _ _ _ _ => trivial), hNs.warm hW⟩⟩ rfl rfl hl.1 rfl (lv_room (Nat.le_of_ble_eq_true rfl)) d_Q_init_31 ⟨Nat.le_of_ble_eq_true rfl, Nat.le_of_ble_eq_true rfl⟩) hS (fun q _ h => hFc q h) hFc (fun u t H1 locs ht hvm hw hB hz1 hk1 hS => ?_)
  obtain ⟨a1_6, a2_6, k1_6, k2_6, hP1, hK1, hD1⟩ := hB
  rw [ht] at hP1
  have hK1 := va_K.moved hvm.symm hK1
  obtain ⟨hP, hD⟩ := va_join (wr := [(q, .inr (6, [.ref a1, .ref a3, .null, .null, .null, .null])), (a1, .inr (0, [.ref a1_2, .ref a2_2])), (a1_2, .inl (k1_2, 12, .inl (fun _ => 0))), (a2_2, .inl (k2_2, 192, .inl (fun _ => 0))), (a3, .inr (1, [.ref a1_4, .ref a2_4, .int 0])), (a1_4, .inl (k1_4, 12, .inl (fun _ => 0))), (a2_4, .inl (k2_4, 12, .inl (fun _ => 0)))]) (w1 := [(a5, .inr (2, [.ref a1_6, .ref a2_6])), (a1_6, .inl (k1_6, 336, .inl (fun _ => 0))), (a2_6, .inl (k2_6, 6, .inl (fun _ => 0)))]) hP hD [7] [0, 1, 2, 3, 4, 5, 6] rfl rfl (by decide) (by decide) hk1 hFc hP1 hD1
  have hK := (hK.sub (tys' := [(k1_2, .boolean), (k2_2, .int), (k1_4, .int), (k2_4, .int)]) [0, 1, 2, 3] rfl).app hK1
  generalize H1 = H at hP hS ⊢
  have hP : va_P (dC, dI) vwCl [(q, .inr (6, [.ref a1, .ref a3, .null, .null, .null, .null])), (a1, .inr (0, [.ref a1_2, .ref a2_2])), (a1_2, .inl (k1_2, 12, .inl (fun _ => 0))), (a2_2, .inl (k2_2, 192, .inl (fun _ => 0))), (a3, .inr (1, [.ref a1_4, .ref a2_4, .int 0])), (a1_4, .inl (k1_4, 12, .inl (fun _ => 0))), (a2_4, .inl (k2_4, 12, .inl (fun _ => 0))), (a5, .inr (2, [.ref a1_6, .ref a2_6])), (a1_6, .inl (k1_6, 336, .inl (fun _ => 0))), (a2_6, .inl (k2_6, 6, .inl (fun _ => 0)))] H := hP
  have hD : va_D A [(q, .inr (6, [.ref a1, .ref a3, .null, .null, .null, .null])), (a1, .inr (0, [.ref a1_2, .ref a2_2])), (a1_2, .inl (k1_2, 12, .inl (fun _ => 0))), (a2_2, .inl (k2_2, 192, .inl (fun _ => 0))), (a3, .inr (1, [.ref a1_4, .ref a2_4, .int 0])), (a1_4, .inl (k1_4, 12, .inl (fun _ => 0))), (a2_4, .inl (k2_4, 12, .inl (fun _ => 0))), (a5, .inr (2, [.ref a1_6, .ref a2_6])), (a1_6, .inl (k1_6, 336, .inl (fun _ => 0))), (a2_6, .inl (k2_6, 6, .inl (fun _ => 0)))] := hD
  have hK : va_K (dC, dI) vwCl [(k1_2, .boolean), (k2_2, .int), (k1_4, .int), (k2_4, .int), (k1_6, .int), (k2_6, .int)] s := hK
  refine va_putF (D := (dC, dI)) (ci := 6) (v := .ref a5) (ty := .object "QuakeServer$Program") (C := R_Q) (T := T_Q) (N := 6) hx hb hg in_Q ty_Q ty_Q_ok nm_Q hown hK hP hD hS 0 rfl rfl 2 (by decide) (hg _ t_158) (fun _ h9 => h9) rfl hin rfl (by decide +kernel) rfl rfl (Nat.le_of_ble_eq_true rfl) d_Q_init_34 (fun H locs hP hD hS => ?_)
  have hP : va_P (dC, dI) vwCl [(q, .inr (6, [.ref a1, .ref a3, .ref a5, .null, .null, .null])), (a1, .inr (0, [.ref a1_2, .ref a2_2])), (a1_2, .inl (k1_2, 12, .inl (fun _ => 0))), (a2_2, .inl (k2_2, 192, .inl (fun _ => 0))), (a3, .inr (1, [.ref a1_4, .ref a2_4, .int 0])), (a1_4, .inl (k1_4, 12, .inl (fun _ => 0))), (a2_4, .inl (k2_4, 12, .inl (fun _ => 0))), (a5, .inr (2, [.ref a1_6, .ref a2_6])), (a1_6, .inl (k1_6, 336, .inl (fun _ => 0))), (a2_6, .inl (k2_6, 6, .inl (fun _ => 0)))] H := hP
  have hD : va_D A [(q, .inr (6, [.ref a1, .ref a3, .ref a5, .null, .null, .null])), (a1, .inr (0, [.ref a1_2, .ref a2_2])), (a1_2, .inl (k1_2, 12, .inl (fun _ => 0))), (a2_2, .inl (k2_2, 192, .inl (fun _ => 0))), (a3, .inr (1, [.ref a1_4, .ref a2_4, .int 0])), (a1_4, .inl (k1_4, 12, .inl (fun _ => 0))), (a2_4, .inl (k2_4, 12, .inl (fun _ => 0))), (a5, .inr (2, [.ref a1_6, .ref a2_6])), (a1_6, .inl (k1_6, 336, .inl (fun _ => 0))), (a2_6, .inl (k2_6, 6, .inl (fun _ => 0)))] := hD
  refine lv_aload_n hx hb d_Q_init_37 rfl (lv_at hl 0 rfl) ?_
  refine va_new (ci := 3) (fs := [.null, .null, .null, .null, .null, .int 0, .int 0, .int 0, .int 0, .int 0, .int 0]) (C := R_M) (T := T_M) (N := 11) hx hb hg in_M ty_M ty_M_ok hown (hg _ t_71) (hg _ t_72) (hg _ t_5) hK hP hD hS hA rfl (fun j hj => by rcases (show j = 0 ∨ j = 1 ∨ j = 2 ∨ j = 3 ∨ j = 4 ∨ j = 5 ∨ j = 6 ∨ j = 7 ∨ j = 8 ∨ j = 9 ∨ j = 10 by omega) with rfl | rfl | rfl | rfl | rfl | rfl | rfl | rfl | rfl | rfl | rfl <;> rfl) (Nat.le_of_ble_eq_true rfl) (Nat.le_of_ble_eq_true rfl) d_Q_init_38 (fun a7 H hP hD hS => ?_)
  have hP : va_P (dC, dI) vwCl [(q, .inr (6, [.ref a1, .ref a3, .ref a5, .null, .null, .null])), (a1, .inr (0, [.ref a1_2, .ref a2_2])), (a1_2, .inl (k1_2, 12, .inl (fun _ => 0))), (a2_2, .inl (k2_2, 192, .inl (fun _ => 0))), (a3, .inr (1, [.ref a1_4, .ref a2_4, .int 0])), (a1_4, .inl (k1_4, 12, .inl (fun _ => 0))), (a2_4, .inl (k2_4, 12, .inl (fun _ => 0))), (a5, .inr (2, [.ref a1_6, .ref a2_6])), (a1_6, .inl (k1_6, 336, .inl (fun _ => 0))), (a2_6, .inl (k2_6, 6, .inl (fun _ => 0))), (a7, .inr (3, [.null, .null, .null, .null, .null, .int 0, .int 0, .int 0, .int 0, .int 0, .int 0]))] H := hP
  have hD : va_D A [(q, .inr (6, [.ref a1, .ref a3, .ref a5, .null, .null, .null])), (a1, .inr (0, [.ref a1_2, .ref a2_2])), (a1_2, .inl (k1_2, 12, .inl (fun _ => 0))), (a2_2, .inl (k2_2, 192, .inl (fun _ => 0))), (a3, .inr (1, [.ref a1_4, .ref a2_4, .int 0])), (a1_4, .inl (k1_4, 12, .inl (fun _ => 0))), (a2_4, .inl (k2_4, 12, .inl (fun _ => 0))), (a5, .inr (2, [.ref a1_6, .ref a2_6])), (a1_6, .inl (k1_6, 336, .inl (fun _ => 0))), (a2_6, .inl (k2_6, 6, .inl (fun _ => 0))), (a7, .inr (3, [.null, .null, .null, .null, .null, .int 0, .int 0, .int 0, .int 0, .int 0, .int 0]))] := hD
  refine lv_dup hx hb d_Q_init_41 rfl ?_
  refine lv_aload_n hx hb d_Q_init_42 rfl (lv_at hl 0 rfl) ?_
  refine va_get (D := (dC, dI)) (ci := 6) (v := .ref a1) (C := R_Q) (T := T_Q) (N := 6) hx hb hg in_Q hown hK hP 0 rfl rfl 0 (by decide) (hg _ t_156) (fun _ h9 => h9) rfl d_Q_init_43 ?_
  refine lv_aload_n hx hb d_Q_init_46 rfl (lv_at hl 0 rfl) ?_
  refine va_get (D := (dC, dI)) (ci := 6) (v := .ref a5) (C := R_Q) (T := T_Q) (N := 6) hx hb hg in_Q hown hK hP 0 rfl rfl 2 (by decide) (hg _ t_158) (fun _ h9 => h9) rfl d_Q_init_47 ?_
  have hPc := hP.sub (ws' := [(a7, .inr (3, [.null, .null, .null, .null, .null, .int 0, .int 0, .int 0, .int 0, .int 0, .int 0]))]) [10] rfl
  have hDc := hD.sub (ws' := [(a7, .inr (3, [.null, .null, .null, .null, .null, .int 0, .int 0, .int 0, .int 0, .int 0, .int 0]))]) [10] (by decide) rfl
  have hKc := hK.sub (tys' := []) [] rfl
  have hFc := va_free (wc := [(a7, .inr (3, [.null, .null, .null, .null, .null, .int 0, .int 0, .int 0, .int 0, .int 0, .int 0]))]) hD hS hA [10] rfl
  refine va_callv (va_runI (own := "QuakeServer") (As := [.ref a1, .ref a5]) (rest := [.ref a7, .ref q]) ⟨hx, hb, hml, hown, hg⟩ (c_M_init l dC dI a7 a1 a5 H.size) (cwI 2 hg (qs_gc t_75) rfl rfl rfl (hg _ t_5) (hg _ t_73) (hg _ t_74) rfl (by decide +kernel) ⟨Nat.le_of_ble_eq_true rfl, Nat.le_of_ble_eq_true rfl⟩) ⟨qs_blind, fun U hU hW => ⟨rfl, by rw [hU], by rw [hU]; exact hPc, va_K.moved hW.alike hKc, hDc.weaken (fun _ _ _ _ => trivial), hNs.warm hW⟩⟩ rfl rfl hl.1 rfl (lv_room (Nat.le_of_ble_eq_true rfl)) d_Q_init_50 ⟨Nat.le_of_ble_eq_true rfl, Nat.le_of_ble_eq_true rfl⟩) hS (fun q _ h => hFc q h) hFc (fun u t H1 locs ht hvm hw hB hz1 hk1 hS => ?_)
  obtain ⟨a1_8, a2_8, a3_8, k1_8, k2_8, k3_8, hP1, hK1, hD1⟩ := hB
  rw [ht] at hP1
  have hK1 := va_K.moved hvm.symm hK1
  obtain ⟨hP, hD⟩ := va_join (wr := [(q, .inr (6, [.ref a1, .ref a3, .ref a5, .null, .null, .null])), (a1, .inr (0, [.ref a1_2, .ref a2_2])), (a1_2, .inl (k1_2, 12, .inl (fun _ => 0))), (a2_2, .inl (k2_2, 192, .inl (fun _ => 0))), (a3, .inr (1, [.ref a1_4, .ref a2_4, .int 0])), (a1_4, .inl (k1_4, 12, .inl (fun _ => 0))), (a2_4, .inl (k2_4, 12, .inl (fun _ => 0))), (a5, .inr (2, [.ref a1_6, .ref a2_6])), (a1_6, .inl (k1_6, 336, .inl (fun _ => 0))), (a2_6, .inl (k2_6, 6, .inl (fun _ => 0)))]) (w1 := [(a7, .inr (3, [.ref a1, .ref a5, .ref a1_8, .ref a2_8, .ref a3_8, .int 0, .int 0, .int 0, .int 1, .int 0, .int 0])), (a1_8, .inl (k1_8, 24, .inl (fun _ => 0))), (a2_8, .inl (k2_8, 6, .inl (fun _ => 0))), (a3_8, .inl (k3_8, 6, .inl (fun _ => 0)))]) hP hD [10] [0, 1, 2, 3, 4, 5, 6, 7, 8, 9] rfl rfl (by decide) (by decide) hk1 hFc hP1 hD1
  have hK := (hK.sub (tys' := [(k1_2, .boolean), (k2_2, .int), (k1_4, .int), (k2_4, .int), (k1_6, .int), (k2_6, .int)]) [0, 1, 2, 3, 4, 5] rfl).app hK1
  generalize H1 = H at hP hS ⊢
  have hP : va_P (dC, dI) vwCl [(q, .inr (6, [.ref a1, .ref a3, .ref a5, .null, .null, .null])), (a1, .inr (0, [.ref a1_2, .ref a2_2])), (a1_2, .inl (k1_2, 12, .inl (fun _ => 0))), (a2_2, .inl (k2_2, 192, .inl (fun _ => 0))), (a3, .inr (1, [.ref a1_4, .ref a2_4, .int 0])), (a1_4, .inl (k1_4, 12, .inl (fun _ => 0))), (a2_4, .inl (k2_4, 12, .inl (fun _ => 0))), (a5, .inr (2, [.ref a1_6, .ref a2_6])), (a1_6, .inl (k1_6, 336, .inl (fun _ => 0))), (a2_6, .inl (k2_6, 6, .inl (fun _ => 0))), (a7, .inr (3, [.ref a1, .ref a5, .ref a1_8, .ref a2_8, .ref a3_8, .int 0, .int 0, .int 0, .int 1, .int 0, .int 0])), (a1_8, .inl (k1_8, 24, .inl (fun _ => 0))), (a2_8, .inl (k2_8, 6, .inl (fun _ => 0))), (a3_8, .inl (k3_8, 6, .inl (fun _ => 0)))] H := hP
  have hD : va_D A [(q, .inr (6, [.ref a1, .ref a3, .ref a5, .null, .null, .null])), (a1, .inr (0, [.ref a1_2, .ref a2_2])), (a1_2, .inl (k1_2, 12, .inl (fun _ => 0))), (a2_2, .inl (k2_2, 192, .inl (fun _ => 0))), (a3, .inr (1, [.ref a1_4, .ref a2_4, .int 0])), (a1_4, .inl (k1_4, 12, .inl (fun _ => 0))), (a2_4, .inl (k2_4, 12, .inl (fun _ => 0))), (a5, .inr (2, [.ref a1_6, .ref a2_6])), (a1_6, .inl (k1_6, 336, .inl (fun _ => 0))), (a2_6, .inl (k2_6, 6, .inl (fun _ => 0))), (a7, .inr (3, [.ref a1, .ref a5, .ref a1_8, .ref a2_8, .ref a3_8, .int 0, .int 0, .int 0, .int 1, .int 0, .int 0])), (a1_8, .inl (k1_8, 24, .inl (fun _ => 0))), (a2_8, .inl (k2_8, 6, .inl (fun _ => 0))), (a3_8, .inl (k3_8, 6, .inl (fun _ => 0)))] := hD
  have hK : va_K (dC, dI) vwCl [(k1_2, .boolean), (k2_2, .int), (k1_4, .int), (k2_4, .int), (k1_6, .int), (k2_6, .int), (k1_8, .int), (k2_8, .int), (k3_8, .int)] s := hK
  refine va_putF (D := (dC, dI)) (ci := 6) (v := .ref a7) (ty := .object "QuakeServer$Machine") (C := R_Q) (T := T_Q) (N := 6) hx hb hg in_Q ty_Q ty_Q_ok nm_Q hown hK hP hD hS 0 rfl rfl 3 (by decide) (hg _ t_159) (fun _ h9 => h9) rfl hin rfl (by decide +kernel) rfl rfl (Nat.le_of_ble_eq_true rfl) d_Q_init_53 (fun H locs hP hD hS => ?_)
  have hP : va_P (dC, dI) vwCl [(q, .inr (6, [.ref a1, .ref a3, .ref a5, .ref a7, .null, .null])), (a1, .inr (0, [.ref a1_2, .ref a2_2])), (a1_2, .inl (k1_2, 12, .inl (fun _ => 0))), (a2_2, .inl (k2_2, 192, .inl (fun _ => 0))), (a3, .inr (1, [.ref a1_4, .ref a2_4, .int 0])), (a1_4, .inl (k1_4, 12, .inl (fun _ => 0))), (a2_4, .inl (k2_4, 12, .inl (fun _ => 0))), (a5, .inr (2, [.ref a1_6, .ref a2_6])), (a1_6, .inl (k1_6, 336, .inl (fun _ => 0))), (a2_6, .inl (k2_6, 6, .inl (fun _ => 0))), (a7, .inr (3, [.ref a1, .ref a5, .ref a1_8, .ref a2_8, .ref a3_8, .int 0, .int 0, .int 0, .int 1, .int 0, .int 0])), (a1_8, .inl (k1_8, 24, .inl (fun _ => 0))), (a2_8, .inl (k2_8, 6, .inl (fun _ => 0))), (a3_8, .inl (k3_8, 6, .inl (fun _ => 0)))] H := hP
  have hD : va_D A [(q, .inr (6, [.ref a1, .ref a3, .ref a5, .ref a7, .null, .null])), (a1, .inr (0, [.ref a1_2, .ref a2_2])), (a1_2, .inl (k1_2, 12, .inl (fun _ => 0))), (a2_2, .inl (k2_2, 192, .inl (fun _ => 0))), (a3, .inr (1, [.ref a1_4, .ref a2_4, .int 0])), (a1_4, .inl (k1_4, 12, .inl (fun _ => 0))), (a2_4, .inl (k2_4, 12, .inl (fun _ => 0))), (a5, .inr (2, [.ref a1_6, .ref a2_6])), (a1_6, .inl (k1_6, 336, .inl (fun _ => 0))), (a2_6, .inl (k2_6, 6, .inl (fun _ => 0))), (a7, .inr (3, [.ref a1, .ref a5, .ref a1_8, .ref a2_8, .ref a3_8, .int 0, .int 0, .int 0, .int 1, .int 0, .int 0])), (a1_8, .inl (k1_8, 24, .inl (fun _ => 0))), (a2_8, .inl (k2_8, 6, .inl (fun _ => 0))), (a3_8, .inl (k3_8, 6, .inl (fun _ => 0)))] := hD
  refine lv_aload_n hx hb d_Q_init_56 rfl (lv_at hl 0 rfl) ?_
  refine va_new (ci := 4) (fs := [.null, .null, .null, .int 0, .int 0, .int 0]) (C := R_V) (T := T_V) (N := 6) hx hb hg in_V ty_V ty_V_ok hown (hg _ t_117) (hg _ t_118) (hg _ t_6) hK hP hD hS hA rfl (fun j hj => by rcases (show j = 0 ∨ j = 1 ∨ j = 2 ∨ j = 3 ∨ j = 4 ∨ j = 5 by omega) with rfl | rfl | rfl | rfl | rfl | rfl <;> rfl) (Nat.le_of_ble_eq_true rfl) (Nat.le_of_ble_eq_true rfl) d_Q_init_57 (fun a9 H hP hD hS => ?_)
  have hP : va_P (dC, dI) vwCl [(q, .inr (6, [.ref a1, .ref a3, .ref a5, .ref a7, .null, .null])), (a1, .inr (0, [.ref a1_2, .ref a2_2])), (a1_2, .inl (k1_2, 12, .inl (fun _ => 0))), (a2_2, .inl (k2_2, 192, .inl (fun _ => 0))), (a3, .inr (1, [.ref a1_4, .ref a2_4, .int 0])), (a1_4, .inl (k1_4, 12, .inl (fun _ => 0))), (a2_4, .inl (k2_4, 12, .inl (fun _ => 0))), (a5, .inr (2, [.ref a1_6, .ref a2_6])), (a1_6, .inl (k1_6, 336, .inl (fun _ => 0))), (a2_6, .inl (k2_6, 6, .inl (fun _ => 0))), (a7, .inr (3, [.ref a1, .ref a5, .ref a1_8, .ref a2_8, .ref a3_8, .int 0, .int 0, .int 0, .int 1, .int 0, .int 0])), (a1_8, .inl (k1_8, 24, .inl (fun _ => 0))), (a2_8, .inl (k2_8, 6, .inl (fun _ => 0))), (a3_8, .inl (k3_8, 6, .inl (fun _ => 0))), (a9, .inr (4, [.null, .null, .null, .int 0, .int 0, .int 0]))] H := hP
  have hD : va_D A [(q, .inr (6, [.ref a1, .ref a3, .ref a5, .ref a7, .null, .null])), (a1, .inr (0, [.ref a1_2, .ref a2_2])), (a1_2, .inl (k1_2, 12, .inl (fun _ => 0))), (a2_2, .inl (k2_2, 192, .inl (fun _ => 0))), (a3, .inr (1, [.ref a1_4, .ref a2_4, .int 0])), (a1_4, .inl (k1_4, 12, .inl (fun _ => 0))), (a2_4, .inl (k2_4, 12, .inl (fun _ => 0))), (a5, .inr (2, [.ref a1_6, .ref a2_6])), (a1_6, .inl (k1_6, 336, .inl (fun _ => 0))), (a2_6, .inl (k2_6, 6, .inl (fun _ => 0))), (a7, .inr (3, [.ref a1, .ref a5, .ref a1_8, .ref a2_8, .ref a3_8, .int 0, .int 0, .int 0, .int 1, .int 0, .int 0])), (a1_8, .inl (k1_8, 24, .inl (fun _ => 0))), (a2_8, .inl (k2_8, 6, .inl (fun _ => 0))), (a3_8, .inl (k3_8, 6, .inl (fun _ => 0))), (a9, .inr (4, [.null, .null, .null, .int 0, .int 0, .int 0]))] := hD
  refine lv_dup hx hb d_Q_init_60 rfl ?_
  refine lv_aload_n hx hb d_Q_init_61 rfl (lv_at hl 0 rfl) ?_
  refine va_get (D := (dC, dI)) (ci := 6) (v := .ref a1) (C := R_Q) (T := T_Q) (N := 6) hx hb hg in_Q hown hK hP 0 rfl rfl 0 (by decide) (hg _ t_156) (fun _ h9 => h9) rfl d_Q_init_62 ?_
  refine lv_aload_n hx hb d_Q_init_65 rfl (lv_at hl 0 rfl) ?_
  refine va_get (D := (dC, dI)) (ci := 6) (v := .ref a3) (C := R_Q) (T := T_Q) (N := 6) hx hb hg in_Q hown hK hP 0 rfl rfl 1 (by decide) (hg _ t_157) (fun _ h9 => h9) rfl d_Q_init_66 ?_
  refine lv_aload_n hx hb d_Q_init_69 rfl (lv_at hl 0 rfl) ?_
  refine va_get (D := (dC, dI)) (ci := 6) (v := .ref a7) (C := R_Q) (T := T_Q) (N := 6) hx hb hg in_Q hown hK hP 0 rfl rfl 3 (by decide) (hg _ t_159) (fun _ h9 => h9) rfl d_Q_init_70 ?_
  have hPc := hP.sub (ws' := [(a9, .inr (4, [.null, .null, .null, .int 0, .int 0, .int 0]))]) [14] rfl
  have hDc := hD.sub (ws' := [(a9, .inr (4, [.null, .null, .null, .int 0, .int 0, .int 0]))]) [14] (by decide) rfl
  have hKc := hK.sub (tys' := []) [] rfl
  have hFc := va_free (wc := [(a9, .inr (4, [.null, .null, .null, .int 0, .int 0, .int 0]))]) hD hS hA [14] rfl
  refine va_callv (va_runI (own := "QuakeServer") (As := [.ref a1, .ref a3, .ref a7]) (rest := [.ref a9, .ref q]) ⟨hx, hb, hml, hown, hg⟩ (c_V_init l dC dI a9 a1 a3 a7 H.size) (cwI 3 hg (qs_gc t_121) rfl rfl rfl (hg _ t_6) (hg _ t_119) (hg _ t_120) rfl (by decide +kernel) ⟨Nat.le_of_ble_eq_true rfl, Nat.le_of_ble_eq_true rfl⟩) ⟨qs_blind, fun U hU hW => ⟨rfl, by rw [hU], by rw [hU]; exact hPc, va_K.moved hW.alike hKc, hDc.weaken (fun _ _ _ _ => trivial), hNs.warm hW⟩⟩ rfl rfl hl.1 rfl (lv_room (Nat.le_of_ble_eq_true rfl)) d_Q_init_73 ⟨Nat.le_of_ble_eq_true rfl, Nat.le_of_ble_eq_true rfl⟩) hS (fun q _ h => hFc q h) hFc (fun u t H1 locs ht hvm hw hB hz1 hk1 hS => ?_)
  obtain ⟨hP1, hK1, hD1⟩ := hB
  rw [ht] at hP1
  have hK1 := va_K.moved hvm.symm hK1
  obtain ⟨hP, hD⟩ := va_join (wr := [(q, .inr (6, [.ref a1, .ref a3, .ref a5, .ref a7, .null, .null])), (a1, .inr (0, [.ref a1_2, .ref a2_2])), (a1_2, .inl (k1_2, 12, .inl (fun _ => 0))), (a2_2, .inl (k2_2, 192, .inl (fun _ => 0))), (a3, .inr (1, [.ref a1_4, .ref a2_4, .int 0])), (a1_4, .inl (k1_4, 12, .inl (fun _ => 0))), (a2_4, .inl (k2_4, 12, .inl (fun _ => 0))), (a5, .inr (2, [.ref a1_6, .ref a2_6])), (a1_6, .inl (k1_6, 336, .inl (fun _ => 0))), (a2_6, .inl (k2_6, 6, .inl (fun _ => 0))), (a7, .inr (3, [.ref a1, .ref a5, .ref a1_8, .ref a2_8, .ref a3_8, .int 0, .int 0, .int 0, .int 1, .int 0, .int 0])), (a1_8, .inl (k1_8, 24, .inl (fun _ => 0))), (a2_8, .inl (k2_8, 6, .inl (fun _ => 0))), (a3_8, .inl (k3_8, 6, .inl (fun _ => 0)))]) (w1 := [(a9, .inr (4, [.ref a1, .ref a3, .ref a7, .int 0, .int 0, .int 0]))]) hP hD [14] [0, 1, 2, 3, 4, 5, 6, 7, 8, 9, 10, 11, 12, 13] rfl rfl (by decide) (by decide) hk1 hFc hP1 hD1
  have hK := (hK.sub (tys' := [(k1_2, .boolean), (k2_2, .int), (k1_4, .int), (k2_4, .int), (k1_6, .int), (k2_6, .int), (k1_8, .int), (k2_8, .int), (k3_8, .int)]) [0, 1, 2, 3, 4, 5, 6, 7, 8] rfl).app hK1
  generalize H1 = H at hP hS ⊢
  have hP : va_P (dC, dI) vwCl [(q, .inr (6, [.ref a1, .ref a3, .ref a5, .ref a7, .null, .null])), (a1, .inr (0, [.ref a1_2, .ref a2_2])), (a1_2, .inl (k1_2, 12, .inl (fun _ => 0))), (a2_2, .inl (k2_2, 192, .inl (fun _ => 0))), (a3, .inr (1, [.ref a1_4, .ref a2_4, .int 0])), (a1_4, .inl (k1_4, 12, .inl (fun _ => 0))), (a2_4, .inl (k2_4, 12, .inl (fun _ => 0))), (a5, .inr (2, [.ref a1_6, .ref a2_6])), (a1_6, .inl (k1_6, 336, .inl (fun _ => 0))), (a2_6, .inl (k2_6, 6, .inl (fun _ => 0))), (a7, .inr (3, [.ref a1, .ref a5, .ref a1_8, .ref a2_8, .ref a3_8, .int 0, .int 0, .int 0, .int 1, .int 0, .int 0])), (a1_8, .inl (k1_8, 24, .inl (fun _ => 0))), (a2_8, .inl (k2_8, 6, .inl (fun _ => 0))), (a3_8, .inl (k3_8, 6, .inl (fun _ => 0))), (a9, .inr (4, [.ref a1, .ref a3, .ref a7, .int 0, .int 0, .int 0]))] H := hP
  have hD : va_D A [(q, .inr (6, [.ref a1, .ref a3, .ref a5, .ref a7, .null, .null])), (a1, .inr (0, [.ref a1_2, .ref a2_2])), (a1_2, .inl (k1_2, 12, .inl (fun _ => 0))), (a2_2, .inl (k2_2, 192, .inl (fun _ => 0))), (a3, .inr (1, [.ref a1_4, .ref a2_4, .int 0])), (a1_4, .inl (k1_4, 12, .inl (fun _ => 0))), (a2_4, .inl (k2_4, 12, .inl (fun _ => 0))), (a5, .inr (2, [.ref a1_6, .ref a2_6])), (a1_6, .inl (k1_6, 336, .inl (fun _ => 0))), (a2_6, .inl (k2_6, 6, .inl (fun _ => 0))), (a7, .inr (3, [.ref a1, .ref a5, .ref a1_8, .ref a2_8, .ref a3_8, .int 0, .int 0, .int 0, .int 1, .int 0, .int 0])), (a1_8, .inl (k1_8, 24, .inl (fun _ => 0))), (a2_8, .inl (k2_8, 6, .inl (fun _ => 0))), (a3_8, .inl (k3_8, 6, .inl (fun _ => 0))), (a9, .inr (4, [.ref a1, .ref a3, .ref a7, .int 0, .int 0, .int 0]))] := hD
  have hK : va_K (dC, dI) vwCl [(k1_2, .boolean), (k2_2, .int), (k1_4, .int), (k2_4, .int), (k1_6, .int), (k2_6, .int), (k1_8, .int), (k2_8, .int), (k3_8, .int)] s := hK
  refine va_putF (D := (dC, dI)) (ci := 6) (v := .ref a9) (ty := .object "QuakeServer$Mover") (C := R_Q) (T := T_Q) (N := 6) hx hb hg in_Q ty_Q ty_Q_ok nm_Q hown hK hP hD hS 0 rfl rfl 4 (by decide) (hg _ t_160) (fun _ h9 => h9) rfl hin rfl (by decide +kernel) rfl rfl (Nat.le_of_ble_eq_true rfl) d_Q_init_76 (fun H locs hP hD hS => ?_)
  have hP : va_P (dC, dI) vwCl [(q, .inr (6, [.ref a1, .ref a3, .ref a5, .ref a7, .ref a9, .null])), (a1, .inr (0, [.ref a1_2, .ref a2_2])), (a1_2, .inl (k1_2, 12, .inl (fun _ => 0))), (a2_2, .inl (k2_2, 192, .inl (fun _ => 0))), (a3, .inr (1, [.ref a1_4, .ref a2_4, .int 0])), (a1_4, .inl (k1_4, 12, .inl (fun _ => 0))), (a2_4, .inl (k2_4, 12, .inl (fun _ => 0))), (a5, .inr (2, [.ref a1_6, .ref a2_6])), (a1_6, .inl (k1_6, 336, .inl (fun _ => 0))), (a2_6, .inl (k2_6, 6, .inl (fun _ => 0))), (a7, .inr (3, [.ref a1, .ref a5, .ref a1_8, .ref a2_8, .ref a3_8, .int 0, .int 0, .int 0, .int 1, .int 0, .int 0])), (a1_8, .inl (k1_8, 24, .inl (fun _ => 0))), (a2_8, .inl (k2_8, 6, .inl (fun _ => 0))), (a3_8, .inl (k3_8, 6, .inl (fun _ => 0))), (a9, .inr (4, [.ref a1, .ref a3, .ref a7, .int 0, .int 0, .int 0]))] H := hP
  have hD : va_D A [(q, .inr (6, [.ref a1, .ref a3, .ref a5, .ref a7, .ref a9, .null])), (a1, .inr (0, [.ref a1_2, .ref a2_2])), (a1_2, .inl (k1_2, 12, .inl (fun _ => 0))), (a2_2, .inl (k2_2, 192, .inl (fun _ => 0))), (a3, .inr (1, [.ref a1_4, .ref a2_4, .int 0])), (a1_4, .inl (k1_4, 12, .inl (fun _ => 0))), (a2_4, .inl (k2_4, 12, .inl (fun _ => 0))), (a5, .inr (2, [.ref a1_6, .ref a2_6])), (a1_6, .inl (k1_6, 336, .inl (fun _ => 0))), (a2_6, .inl (k2_6, 6, .inl (fun _ => 0))), (a7, .inr (3, [.ref a1, .ref a5, .ref a1_8, .ref a2_8, .ref a3_8, .int 0, .int 0, .int 0, .int 1, .int 0, .int 0])), (a1_8, .inl (k1_8, 24, .inl (fun _ => 0))), (a2_8, .inl (k2_8, 6, .inl (fun _ => 0))), (a3_8, .inl (k3_8, 6, .inl (fun _ => 0))), (a9, .inr (4, [.ref a1, .ref a3, .ref a7, .int 0, .int 0, .int 0]))] := hD
  refine lv_aload_n hx hb d_Q_init_79 rfl (lv_at hl 0 rfl) ?_
  refine va_new (ci := 5) (fs := [.null, .null]) (C := R_L) (T := T_L) (N := 2) hx hb hg in_L ty_L ty_L_ok hown (hg _ t_143) (hg _ t_144) (hg _ t_7) hK hP hD hS hA rfl (fun j hj => by rcases (show j = 0 ∨ j = 1 by omega) with rfl | rfl <;> rfl) (Nat.le_of_ble_eq_true rfl) (Nat.le_of_ble_eq_true rfl) d_Q_init_80 (fun a11 H hP hD hS => ?_)
  have hP : va_P (dC, dI) vwCl [(q, .inr (6, [.ref a1, .ref a3, .ref a5, .ref a7, .ref a9, .null])), (a1, .inr (0, [.ref a1_2, .ref a2_2])), (a1_2, .inl (k1_2, 12, .inl (fun _ => 0))), (a2_2, .inl (k2_2, 192, .inl (fun _ => 0))), (a3, .inr (1, [.ref a1_4, .ref a2_4, .int 0])), (a1_4, .inl (k1_4, 12, .inl (fun _ => 0))), (a2_4, .inl (k2_4, 12, .inl (fun _ => 0))), (a5, .inr (2, [.ref a1_6, .ref a2_6])), (a1_6, .inl (k1_6, 336, .inl (fun _ => 0))), (a2_6, .inl (k2_6, 6, .inl (fun _ => 0))), (a7, .inr (3, [.ref a1, .ref a5, .ref a1_8, .ref a2_8, .ref a3_8, .int 0, .int 0, .int 0, .int 1, .int 0, .int 0])), (a1_8, .inl (k1_8, 24, .inl (fun _ => 0))), (a2_8, .inl (k2_8, 6, .inl (fun _ => 0))), (a3_8, .inl (k3_8, 6, .inl (fun _ => 0))), (a9, .inr (4, [.ref a1, .ref a3, .ref a7, .int 0, .int 0, .int 0])), (a11, .inr (5, [.null, .null]))] H := hP
  have hD : va_D A [(q, .inr (6, [.ref a1, .ref a3, .ref a5, .ref a7, .ref a9, .null])), (a1, .inr (0, [.ref a1_2, .ref a2_2])), (a1_2, .inl (k1_2, 12, .inl (fun _ => 0))), (a2_2, .inl (k2_2, 192, .inl (fun _ => 0))), (a3, .inr (1, [.ref a1_4, .ref a2_4, .int 0])), (a1_4, .inl (k1_4, 12, .inl (fun _ => 0))), (a2_4, .inl (k2_4, 12, .inl (fun _ => 0))), (a5, .inr (2, [.ref a1_6, .ref a2_6])), (a1_6, .inl (k1_6, 336, .inl (fun _ => 0))), (a2_6, .inl (k2_6, 6, .inl (fun _ => 0))), (a7, .inr (3, [.ref a1, .ref a5, .ref a1_8, .ref a2_8, .ref a3_8, .int 0, .int 0, .int 0, .int 1, .int 0, .int 0])), (a1_8, .inl (k1_8, 24, .inl (fun _ => 0))), (a2_8, .inl (k2_8, 6, .inl (fun _ => 0))), (a3_8, .inl (k3_8, 6, .inl (fun _ => 0))), (a9, .inr (4, [.ref a1, .ref a3, .ref a7, .int 0, .int 0, .int 0])), (a11, .inr (5, [.null, .null]))] := hD
  refine lv_dup hx hb d_Q_init_83 rfl ?_
  refine lv_aload_n hx hb d_Q_init_84 rfl (lv_at hl 0 rfl) ?_
  refine va_get (D := (dC, dI)) (ci := 6) (v := .ref a1) (C := R_Q) (T := T_Q) (N := 6) hx hb hg in_Q hown hK hP 0 rfl rfl 0 (by decide) (hg _ t_156) (fun _ h9 => h9) rfl d_Q_init_85 ?_
  have hPc := hP.sub (ws' := [(a11, .inr (5, [.null, .null]))]) [15] rfl
  have hDc := hD.sub (ws' := [(a11, .inr (5, [.null, .null]))]) [15] (by decide) rfl
  have hKc := hK.sub (tys' := []) [] rfl
  have hFc := va_free (wc := [(a11, .inr (5, [.null, .null]))]) hD hS hA [15] rfl
  refine va_callv (va_runI (own := "QuakeServer") (As := [.ref a1]) (rest := [.ref a11, .ref q]) ⟨hx, hb, hml, hown, hg⟩ (c_L_init l dC dI a11 a1 H.size) (cwI 1 hg (qs_gc t_147) rfl rfl rfl (hg _ t_7) (hg _ t_145) (hg _ t_146) rfl (by decide +kernel) ⟨Nat.le_of_ble_eq_true rfl, Nat.le_of_ble_eq_true rfl⟩) ⟨qs_blind, fun U hU hW => ⟨rfl, by rw [hU], by rw [hU]; exact hPc, va_K.moved hW.alike hKc, hDc.weaken (fun _ _ _ _ => trivial), hNs.warm hW⟩⟩ rfl rfl hl.1 rfl (lv_room (Nat.le_of_ble_eq_true rfl)) d_Q_init_88 ⟨Nat.le_of_ble_eq_true rfl, Nat.le_of_ble_eq_true rfl⟩) hS (fun q _ h => hFc q h) hFc (fun u t H1 locs ht hvm hw hB hz1 hk1 hS => ?_)
  obtain ⟨a1_12, k1_12, hP1, hK1, hD1⟩ := hB
  rw [ht] at hP1
  have hK1 := va_K.moved hvm.symm hK1
  obtain ⟨hP, hD⟩ := va_join (wr := [(q, .inr (6, [.ref a1, .ref a3, .ref a5, .ref a7, .ref a9, .null])), (a1, .inr (0, [.ref a1_2, .ref a2_2])), (a1_2, .inl (k1_2, 12, .inl (fun _ => 0))), (a2_2, .inl (k2_2, 192, .inl (fun _ => 0))), (a3, .inr (1, [.ref a1_4, .ref a2_4, .int 0])), (a1_4, .inl (k1_4, 12, .inl (fun _ => 0))), (a2_4, .inl (k2_4, 12, .inl (fun _ => 0))), (a5, .inr (2, [.ref a1_6, .ref a2_6])), (a1_6, .inl (k1_6, 336, .inl (fun _ => 0))), (a2_6, .inl (k2_6, 6, .inl (fun _ => 0))), (a7, .inr (3, [.ref a1, .ref a5, .ref a1_8, .ref a2_8, .ref a3_8, .int 0, .int 0, .int 0, .int 1, .int 0, .int 0])), (a1_8, .inl (k1_8, 24, .inl (fun _ => 0))), (a2_8, .inl (k2_8, 6, .inl (fun _ => 0))), (a3_8, .inl (k3_8, 6, .inl (fun _ => 0))), (a9, .inr (4, [.ref a1, .ref a3, .ref a7, .int 0, .int 0, .int 0]))]) (w1 := [(a11, .inr (5, [.ref a1, .ref a1_12])), (a1_12, .inl (k1_12, 192, .inl (fun _ => 0)))]) hP hD [15] [0, 1, 2, 3, 4, 5, 6, 7, 8, 9, 10, 11, 12, 13, 14] rfl rfl (by decide) (by decide) hk1 hFc hP1 hD1
  have hK := (hK.sub (tys' := [(k1_2, .boolean), (k2_2, .int), (k1_4, .int), (k2_4, .int), (k1_6, .int), (k2_6, .int), (k1_8, .int), (k2_8, .int), (k3_8, .int)]) [0, 1, 2, 3, 4, 5, 6, 7, 8] rfl).app hK1
  generalize H1 = H at hP hS ⊢
  have hP : va_P (dC, dI) vwCl [(q, .inr (6, [.ref a1, .ref a3, .ref a5, .ref a7, .ref a9, .null])), (a1, .inr (0, [.ref a1_2, .ref a2_2])), (a1_2, .inl (k1_2, 12, .inl (fun _ => 0))), (a2_2, .inl (k2_2, 192, .inl (fun _ => 0))), (a3, .inr (1, [.ref a1_4, .ref a2_4, .int 0])), (a1_4, .inl (k1_4, 12, .inl (fun _ => 0))), (a2_4, .inl (k2_4, 12, .inl (fun _ => 0))), (a5, .inr (2, [.ref a1_6, .ref a2_6])), (a1_6, .inl (k1_6, 336, .inl (fun _ => 0))), (a2_6, .inl (k2_6, 6, .inl (fun _ => 0))), (a7, .inr (3, [.ref a1, .ref a5, .ref a1_8, .ref a2_8, .ref a3_8, .int 0, .int 0, .int 0, .int 1, .int 0, .int 0])), (a1_8, .inl (k1_8, 24, .inl (fun _ => 0))), (a2_8, .inl (k2_8, 6, .inl (fun _ => 0))), (a3_8, .inl (k3_8, 6, .inl (fun _ => 0))), (a9, .inr (4, [.ref a1, .ref a3, .ref a7, .int 0, .int 0, .int 0])), (a11, .inr (5, [.ref a1, .ref a1_12])), (a1_12, .inl (k1_12, 192, .inl (fun _ => 0)))] H := hP
  have hD : va_D A [(q, .inr (6, [.ref a1, .ref a3, .ref a5, .ref a7, .ref a9, .null])), (a1, .inr (0, [.ref a1_2, .ref a2_2])), (a1_2, .inl (k1_2, 12, .inl (fun _ => 0))), (a2_2, .inl (k2_2, 192, .inl (fun _ => 0))), (a3, .inr (1, [.ref a1_4, .ref a2_4, .int 0])), (a1_4, .inl (k1_4, 12, .inl (fun _ => 0))), (a2_4, .inl (k2_4, 12, .inl (fun _ => 0))), (a5, .inr (2, [.ref a1_6, .ref a2_6])), (a1_6, .inl (k1_6, 336, .inl (fun _ => 0))), (a2_6, .inl (k2_6, 6, .inl (fun _ => 0))), (a7, .inr (3, [.ref a1, .ref a5, .ref a1_8, .ref a2_8, .ref a3_8, .int 0, .int 0, .int 0, .int 1, .int 0, .int 0])), (a1_8, .inl (k1_8, 24, .inl (fun _ => 0))), (a2_8, .inl (k2_8, 6, .inl (fun _ => 0))), (a3_8, .inl (k3_8, 6, .inl (fun _ => 0))), (a9, .inr (4, [.ref a1, .ref a3, .ref a7, .int 0, .int 0, .int 0])), (a11, .inr (5, [.ref a1, .ref a1_12])), (a1_12, .inl (k1_12, 192, .inl (fun _ => 0)))] := hD
  have hK : va_K (dC, dI) vwCl [(k1_2, .boolean), (k2_2, .int), (k1_4, .int), (k2_4, .int), (k1_6, .int), (k2_6, .int), (k1_8, .int), (k2_8, .int), (k3_8, .int), (k1_12, .int)] s := hK
  refine va_putF (D := (dC, dI)) (ci := 6) (v := .ref a11) (ty := .object "QuakeServer$LastMessage") (C := R_Q) (T := T_Q) (N := 6) hx hb hg in_Q ty_Q ty_Q_ok nm_Q hown hK hP hD hS 0 rfl rfl 5 (by decide) (hg _ t_161) (fun _ h9 => h9) rfl hin rfl (by decide +kernel) rfl rfl (Nat.le_of_ble_eq_true rfl) d_Q_init_91 (fun H locs hP hD hS => ?_)
  have hP : va_P (dC, dI) vwCl [(q, .inr (6, [.ref a1, .ref a3, .ref a5, .ref a7, .ref a9, .ref a11])), (a1, .inr (0, [.ref a1_2, .ref a2_2])), (a1_2, .inl (k1_2, 12, .inl (fun _ => 0))), (a2_2, .inl (k2_2, 192, .inl (fun _ => 0))), (a3, .inr (1, [.ref a1_4, .ref a2_4, .int 0])), (a1_4, .inl (k1_4, 12, .inl (fun _ => 0))), (a2_4, .inl (k2_4, 12, .inl (fun _ => 0))), (a5, .inr (2, [.ref a1_6, .ref a2_6])), (a1_6, .inl (k1_6, 336, .inl (fun _ => 0))), (a2_6, .inl (k2_6, 6, .inl (fun _ => 0))), (a7, .inr (3, [.ref a1, .ref a5, .ref a1_8, .ref a2_8, .ref a3_8, .int 0, .int 0, .int 0, .int 1, .int 0, .int 0])), (a1_8, .inl (k1_8, 24, .inl (fun _ => 0))), (a2_8, .inl (k2_8, 6, .inl (fun _ => 0))), (a3_8, .inl (k3_8, 6, .inl (fun _ => 0))), (a9, .inr (4, [.ref a1, .ref a3, .ref a7, .int 0, .int 0, .int 0])), (a11, .inr (5, [.ref a1, .ref a1_12])), (a1_12, .inl (k1_12, 192, .inl (fun _ => 0)))] H := hP
  have hD : va_D A [(q, .inr (6, [.ref a1, .ref a3, .ref a5, .ref a7, .ref a9, .ref a11])), (a1, .inr (0, [.ref a1_2, .ref a2_2])), (a1_2, .inl (k1_2, 12, .inl (fun _ => 0))), (a2_2, .inl (k2_2, 192, .inl (fun _ => 0))), (a3, .inr (1, [.ref a1_4, .ref a2_4, .int 0])), (a1_4, .inl (k1_4, 12, .inl (fun _ => 0))), (a2_4, .inl (k2_4, 12, .inl (fun _ => 0))), (a5, .inr (2, [.ref a1_6, .ref a2_6])), (a1_6, .inl (k1_6, 336, .inl (fun _ => 0))), (a2_6, .inl (k2_6, 6, .inl (fun _ => 0))), (a7, .inr (3, [.ref a1, .ref a5, .ref a1_8, .ref a2_8, .ref a3_8, .int 0, .int 0, .int 0, .int 1, .int 0, .int 0])), (a1_8, .inl (k1_8, 24, .inl (fun _ => 0))), (a2_8, .inl (k2_8, 6, .inl (fun _ => 0))), (a3_8, .inl (k3_8, 6, .inl (fun _ => 0))), (a9, .inr (4, [.ref a1, .ref a3, .ref a7, .int 0, .int 0, .int 0])), (a11, .inr (5, [.ref a1, .ref a1_12])), (a1_12, .inl (k1_12, 192, .inl (fun _ => 0)))] := hD
  refine W.widen (k := 16) (n := 824) (Nat.le_of_ble_eq_true rfl) (Nat.le_of_ble_eq_true rfl) ?_
  exact W.vret hx hb hr (fun t ht hW => ⟨⟨(), rfl, trivial, a1, a1_2, a2_2, a3, a1_4, a2_4, a5, a1_6, a2_6, a7, a1_8, a2_8, a3_8, a9, a11, a1_12, k1_2, k2_2, k1_4, k2_4, k1_6, k2_6, k1_8, k2_8, k3_8, k1_12, by rw [ht]; exact hP, va_K.moved hW.alike hK, hD⟩, hS.F ht⟩) hS.2.2 d_Q_init_94

theorem d_N_init_0 : decode b_N_init 0 = .ok (.aload_n 0, 1) := by decide +kernel
theorem d_N_init_1 : decode b_N_init 1 = .ok (.invokespecial 1, 3) := by decide +kernel
theorem d_N_init_4 : decode b_N_init 4 = .ok (.aload_n 0, 1) := by decide +kernel
theorem d_N_init_5 : decode b_N_init 5 = .ok (.sipush 192, 3) := by decide +kernel
theorem d_N_init_8 : decode b_N_init 8 = .ok (.newarray .long, 2) := by decide +kernel
theorem d_N_init_10 : decode b_N_init 10 = .ok (.putfield 7, 3) := by decide +kernel
theorem d_N_init_13 : decode b_N_init 13 = .ok (.aload_n 0, 1) := by decide +kernel
theorem d_N_init_14 : decode b_N_init 14 = .ok (.bipush 12, 2) := by decide +kernel
theorem d_N_init_16 : decode b_N_init 16 = .ok (.newarray .boolean, 2) := by decide +kernel
theorem d_N_init_18 : decode b_N_init 18 = .ok (.putfield 13, 3) := by decide +kernel
theorem d_N_init_21 : decode b_N_init 21 = .ok (.aload_n 0, 1) := by decide +kernel
theorem d_N_init_22 : decode b_N_init 22 = .ok (.sipush 192, 3) := by decide +kernel
theorem d_N_init_25 : decode b_N_init 25 = .ok (.newarray .long, 2) := by decide +kernel
theorem d_N_init_27 : decode b_N_init 27 = .ok (.putfield 17, 3) := by decide +kernel
theorem d_N_init_30 : decode b_N_init 30 = .ok (.aload_n 0, 1) := by decide +kernel
theorem d_N_init_31 : decode b_N_init 31 = .ok (.bipush 12, 2) := by decide +kernel
theorem d_N_init_33 : decode b_N_init 33 = .ok (.newarray .boolean, 2) := by decide +kernel
theorem d_N_init_35 : decode b_N_init 35 = .ok (.putfield 20, 3) := by decide +kernel
theorem d_N_init_38 : decode b_N_init 38 = .ok (.aload_n 0, 1) := by decide +kernel
theorem d_N_init_39 : decode b_N_init 39 = .ok (.bipush 24, 2) := by decide +kernel
theorem d_N_init_41 : decode b_N_init 41 = .ok (.newarray .long, 2) := by decide +kernel
theorem d_N_init_43 : decode b_N_init 43 = .ok (.putfield 23, 3) := by decide +kernel
theorem d_N_init_46 : decode b_N_init 46 = .ok (.aload_n 0, 1) := by decide +kernel
theorem d_N_init_47 : decode b_N_init 47 = .ok (.bipush 84, 2) := by decide +kernel
theorem d_N_init_49 : decode b_N_init 49 = .ok (.newarray .int, 2) := by decide +kernel
theorem d_N_init_51 : decode b_N_init 51 = .ok (.putfield 26, 3) := by decide +kernel
theorem d_N_init_54 : decode b_N_init 54 = .ok (.aload_n 0, 1) := by decide +kernel
theorem d_N_init_55 : decode b_N_init 55 = .ok (.bipush 84, 2) := by decide +kernel
theorem d_N_init_57 : decode b_N_init 57 = .ok (.newarray .int, 2) := by decide +kernel
theorem d_N_init_59 : decode b_N_init 59 = .ok (.putfield 30, 3) := by decide +kernel
theorem d_N_init_62 : decode b_N_init 62 = .ok (.aload_n 0, 1) := by decide +kernel
theorem d_N_init_63 : decode b_N_init 63 = .ok (.bipush 84, 2) := by decide +kernel
theorem d_N_init_65 : decode b_N_init 65 = .ok (.newarray .int, 2) := by decide +kernel
theorem d_N_init_67 : decode b_N_init 67 = .ok (.putfield 33, 3) := by decide +kernel
theorem d_N_init_70 : decode b_N_init 70 = .ok (.aload_n 0, 1) := by decide +kernel
theorem d_N_init_71 : decode b_N_init 71 = .ok (.bipush 84, 2) := by decide +kernel
theorem d_N_init_73 : decode b_N_init 73 = .ok (.newarray .int, 2) := by decide +kernel
theorem d_N_init_75 : decode b_N_init 75 = .ok (.putfield 36, 3) := by decide +kernel
theorem d_N_init_78 : decode b_N_init 78 = .ok (.aload_n 0, 1) := by decide +kernel
theorem d_N_init_79 : decode b_N_init 79 = .ok (.bipush 6, 2) := by decide +kernel
theorem d_N_init_81 : decode b_N_init 81 = .ok (.newarray .int, 2) := by decide +kernel
theorem d_N_init_83 : decode b_N_init 83 = .ok (.putfield 39, 3) := by decide +kernel
theorem d_N_init_86 : decode b_N_init 86 = .ok (.aload_n 0, 1) := by decide +kernel
theorem d_N_init_87 : decode b_N_init 87 = .ok (.bipush 24, 2) := by decide +kernel
theorem d_N_init_89 : decode b_N_init 89 = .ok (.newarray .long, 2) := by decide +kernel
theorem d_N_init_91 : decode b_N_init 91 = .ok (.putfield 42, 3) := by decide +kernel
theorem d_N_init_94 : decode b_N_init 94 = .ok (.aload_n 0, 1) := by decide +kernel
theorem d_N_init_95 : decode b_N_init 95 = .ok (.iconst 1, 1) := by decide +kernel
theorem d_N_init_96 : decode b_N_init 96 = .ok (.putfield 45, 3) := by decide +kernel
theorem d_N_init_99 : decode b_N_init 99 = .ok (.aload_n 0, 1) := by decide +kernel
theorem d_N_init_100 : decode b_N_init 100 = .ok (.bipush 6, 2) := by decide +kernel
theorem d_N_init_102 : decode b_N_init 102 = .ok (.newarray .int, 2) := by decide +kernel
theorem d_N_init_104 : decode b_N_init 104 = .ok (.putfield 49, 3) := by decide +kernel
theorem d_N_init_107 : decode b_N_init 107 = .ok (.return_, 1) := by decide +kernel
set_option maxHeartbeats 4000000 in
set_option maxRecDepth 100000 in
theorem c_N_init (l : Launch) (dC : Nat → ClassId) (dI : Nat → Nat → Nat) (q  : Nat) (sz : Nat) : Met l y_N_init (qs_ws y_N_init b_N_init 1 none) ({ frames := 1, cells := 12, slots := 804, locals := 12 } : Room) (va_Pc ([.ref q] : List Value) (fun U => U.heap.size = sz ∧ va_P (dC, dI) vwCl [(q, .inr (7, [.int 0, .null, .null, .null, .null, .null, .int 0, .null, .null, .null, .null, .null, .null, .long 0, .int 0, .int 0, .int 0, .int 0, .null, .int 0, .long 0, .int 0]))] U.heap ∧ va_K (dC, dI) vwCl [] U ∧ va_D (fun _ => True) [(q, .inr (7, [.int 0, .null, .null, .null, .null, .null, .int 0, .null, .null, .null, .null, .null, .null, .long 0, .int 0, .int 0, .int 0, .int 0, .null, .int 0, .long 0, .int 0]))] ∧ qs_N U)) (va_Qv (fun (_ : Unit) => True) (fun (_ : Unit) (t : State) => ∃ (a1 a2 a3 a4 a5 a6 a7 a8 a9 a10 a11 a12 : Nat) (k1 k2 k3 k4 k5 k6 k7 k8 k9 k10 k11 k12 : ClassId), va_P (dC, dI) vwCl [(q, .inr (7, [.int 0, .ref a1, .ref a2, .ref a3, .ref a4, .ref a5, .int 0, .ref a6, .ref a7, .ref a8, .ref a9, .ref a10, .ref a11, .long 0, .int 1, .int 0, .int 0, .int 0, .ref a12, .int 0, .long 0, .int 0])), (a1, .inl (k1, 192, .inr (.inl (fun _ => 0)))), (a2, .inl (k2, 12, .inl (fun _ => 0))), (a3, .inl (k3, 192, .inr (.inl (fun _ => 0)))), (a4, .inl (k4, 12, .inl (fun _ => 0))), (a5, .inl (k5, 24, .inr (.inl (fun _ => 0)))), (a6, .inl (k6, 84, .inl (fun _ => 0))), (a7, .inl (k7, 84, .inl (fun _ => 0))), (a8, .inl (k8, 84, .inl (fun _ => 0))), (a9, .inl (k9, 84, .inl (fun _ => 0))), (a10, .inl (k10, 6, .inl (fun _ => 0))), (a11, .inl (k11, 24, .inr (.inl (fun _ => 0)))), (a12, .inl (k12, 6, .inl (fun _ => 0)))] t.heap ∧ va_K (dC, dI) vwCl [(k1, .long), (k2, .boolean), (k3, .long), (k4, .boolean), (k5, .long), (k6, .int), (k7, .int), (k8, .int), (k9, .int), (k10, .int), (k11, .long), (k12, .int)] t ∧ va_D (va_A [(q, .inr (7, [.int 0, .null, .null, .null, .null, .null, .int 0, .null, .null, .null, .null, .null, .null, .long 0, .int 0, .int 0, .int 0, .int 0, .null, .int 0, .long 0, .int 0]))] sz) [(q, .inr (7, [.int 0, .ref a1, .ref a2, .ref a3, .ref a4, .ref a5, .int 0, .ref a6, .ref a7, .ref a8, .ref a9, .ref a10, .ref a11, .long 0, .int 1, .int 0, .int 0, .int 0, .ref a12, .int 0, .long 0, .int 0])), (a1, .inl (k1, 192, .inr (.inl (fun _ => 0)))), (a2, .inl (k2, 12, .inl (fun _ => 0))), (a3, .inl (k3, 192, .inr (.inl (fun _ => 0)))), (a4, .inl (k4, 12, .inl (fun _ => 0))), (a5, .inl (k5, 24, .inr (.inl (fun _ => 0)))), (a6, .inl (k6, 84, .inl (fun _ => 0))), (a7, .inl (k7, 84, .inl (fun _ => 0))), (a8, .inl (k8, 84, .inl (fun _ => 0))), (a9, .inl (k9, 84, .inl (fun _ => 0))), (a10, .inl (k10, 6, .inl (fun _ => 0))), (a11, .inl (k11, 24, .inr (.inl (fun _ => 0)))), (a12, .inl (k12, 6, .inl (fun _ => 0)))]) (va_A [(q, .inr (7, [.int 0, .null, .null, .null, .null, .null, .int 0, .null, .null, .null, .null, .null, .null, .long 0, .int 0, .int 0, .int 0, .int 0, .null, .int 0, .long 0, .int 0]))] sz)) 12 804 (va_A [(q, .inr (7, [.int 0, .null, .null, .null, .null, .null, .int 0, .null, .null, .null, .null, .null, .null, .long 0, .int 0, .int 0, .int 0, .int 0, .null, .int 0, .long 0, .int 0]))] sz) := by
  refine Met.ofW (cc := b_N_init) (maxL := 1) (ret := none) (by decide +kernel) rfl ?_
  intro p e s m args below meth cd s₁ B hml hv
  obtain ⟨rfl, hsz, hP, hK, hD0, hNs⟩ := hv
  have hx := B.exec
  have hb := B.bytes
  have hr := B.returns
  have hts := atoms_spec (ws := (qs_ws y_N_init b_N_init 1 none)) B.pre
  have hg : ∀ w ∈ qs_gt, w.before _ s = true := fun w h => hts w (List.mem_cons_of_mem _ h)
  have hown : s.vm.findClass R_N = some m.cls := findClass_of_methodNamed B.named
  have hlocks := B.notSynchronized
  have hin : meth.name = "<init>" := (name_of_methodNamed B.named B.method).1
  subst hsz
  have hD := hD0.self (sz := s.heap.size)
  generalize hAe : va_A [(q, .inr (7, [.int 0, .null, .null, .null, .null, .null, .int 0, .null, .null, .null, .null, .null, .null, .long 0, .int 0, .int 0, .int 0, .int 0, .null, .int 0, .long 0, .int 0]))] s.heap.size = A at hD ⊢
  have hA : ∀ q : Nat, s.heap.size ≤ q → A q := fun q h => by rw [← hAe]; exact Or.inr h
  have hS : va_S A s.heap s.heap [] := va_S.rf
  have hl := lv_entry ([.ref q] : List Value) (n := 1) (Nat.le_of_ble_eq_true rfl)
  rw [lg_entry_eq]
  generalize (lg_sl ([.ref q] : List Value) ++ List.replicate (1 - (lg_sl ([.ref q] : List Value)).length) Slot.unset).toArray = ls at hl ⊢
  have hl : lv_has ls 1 [(0, .ref q)] := hl
  obtain ⟨H, hHe⟩ : ∃ H, H = s.heap := ⟨_, rfl⟩
  obtain ⟨locs, hLe⟩ : ∃ L : List Loc, L = [] := ⟨_, rfl⟩
  rw [← hHe] at hP ⊢
  rw [← hLe]
  have hS : va_S A s.heap H locs := by rw [hHe, hLe]; exact hS
  refine lv_aload_n hx hb d_N_init_0 rfl (lv_at hl 0 rfl) ?_
  refine W.objInit hx hb hown (hg _ t_617) (hg _ t_22) (hg _ t_23) rfl (by rw [hml]; exact hl.1) rfl d_N_init_1 (Nat.le_of_ble_eq_true rfl) (Nat.le_of_ble_eq_true rfl) ?_
  refine W.eq (g2 := F0 m 4 ls []) rfl ?_
  refine lv_aload_n hx hb d_N_init_4 rfl (lv_at hl 0 rfl) ?_
  refine lv_sipush (v := 192) hx hb d_N_init_5 (by decide) ?_
  refine va_newa (atype := .long) (ty := .long) (a0 := (192, .inr (.inl (fun _ => 0)))) hx hb (hg _ t_685) rfl hK hP hD hS hA (fun _ => rfl) (by decide) (by decide) (by decide) (Nat.le_of_ble_eq_true rfl) (Nat.le_of_ble_eq_true rfl) d_N_init_8 (fun a1 k1 H hK hP hD hS => ?_)
  have hP : va_P (dC, dI) vwCl [(q, .inr (7, [.int 0, .null, .null, .null, .null, .null, .int 0, .null, .null, .null, .null, .null, .null, .long 0, .int 0, .int 0, .int 0, .int 0, .null, .int 0, .long 0, .int 0])), (a1, .inl (k1, 192, .inr (.inl (fun _ => 0))))] H := hP
  have hD : va_D A [(q, .inr (7, [.int 0, .null, .null, .null, .null, .null, .int 0, .null, .null, .null, .null, .null, .null, .long 0, .int 0, .int 0, .int 0, .int 0, .null, .int 0, .long 0, .int 0])), (a1, .inl (k1, 192, .inr (.inl (fun _ => 0))))] := hD
  have hK : va_K (dC, dI) vwCl [(k1, .long)] s := hK
  refine va_putF (D := (dC, dI)) (ci := 7) (v := .ref a1) (ty := .array .long) (C := R_N) (T := T_N) (N := 22) hx hb hg in_N ty_N ty_N_ok nm_N hown hK hP hD hS 0 rfl rfl 1 (by decide) (hg _ t_619) (fun _ h9 => h9) rfl hin rfl (by decide +kernel) rfl rfl (Nat.le_of_ble_eq_true rfl) d_N_init_10 (fun H locs hP hD hS => ?_)
  have hP : va_P (dC, dI) vwCl [(q, .inr (7, [.int 0, .ref a1, .null, .null, .null, .null, .int 0, .null, .null, .null, .null, .null, .null, .long 0, .int 0, .int 0, .int 0, .int 0, .null, .int 0, .long 0, .int 0])), (a1, .inl (k1, 192, .inr (.inl (fun _ => 0))))] H := hP
  have hD : va_D A [(q, .inr (7, [.int 0, .ref a1, .null, .null, .null, .null, .int 0, .null, .null, .null, .null, .null, .null, .long 0, .int 0, .int 0, .int 0, .int 0, .null, .int 0, .long 0, .int 0])), (a1, .inl (k1, 192, .inr (.inl (fun _ => 0))))] := hD
  refine lv_aload_n hx hb d_N_init_13 rfl (lv_at hl 0 rfl) ?_
  refine lv_bipush (v := 12) hx hb d_N_init_14 (by decide) ?_
  refine va_newa (atype := .boolean) (ty := .boolean) (a0 := (12, .inl (fun _ => 0))) hx hb (hg _ t_37) rfl hK hP hD hS hA (fun _ => rfl) (by decide) (by decide) (by decide) (Nat.le_of_ble_eq_true rfl) (Nat.le_of_ble_eq_true rfl) d_N_init_16 (fun a2 k2 H hK hP hD hS => ?_)
  have hP : va_P (dC, dI) vwCl [(q, .inr (7, [.int 0, .ref a1, .null, .null, .null, .null, .int 0, .null, .null, .null, .null, .null, .null, .long 0, .int 0, .int 0, .int 0, .int 0, .null, .int 0, .long 0, .int 0])), (a1, .inl (k1, 192, .inr (.inl (fun _ => 0)))), (a2, .inl (k2, 12, .inl (fun _ => 0)))] H := hP
  have hD : va_D A [(q, .inr (7, [.int 0, .ref a1, .null, .null, .null, .null, .int 0, .null, .null, .null, .null, .null, .null, .long 0, .int 0, .int 0, .int 0, .int 0, .null, .int 0, .long 0, .int 0])), (a1, .inl (k1, 192, .inr (.inl (fun _ => 0)))), (a2, .inl (k2, 12, .inl (fun _ => 0)))] := hD
  have hK : va_K (dC, dI) vwCl [(k1, .long), (k2, .boolean)] s := hK
  refine va_putF (D := (dC, dI)) (ci := 7) (v := .ref a2) (ty := .array .boolean) (C := R_N) (T := T_N) (N := 22) hx hb hg in_N ty_N ty_N_ok nm_N hown hK hP hD hS 0 rfl rfl 2 (by decide) (hg _ t_620) (fun _ h9 => h9) rfl hin rfl (by decide +kernel) rfl rfl (Nat.le_of_ble_eq_true rfl) d_N_init_18 (fun H locs hP hD hS => ?_)
  have hP : va_P (dC, dI) vwCl [(q, .inr (7, [.int 0, .ref a1, .ref a2, .null, .null, .null, .int 0, .null, .null, .null, .null, .null, .null, .long 0, .int 0, .int 0, .int 0, .int 0, .null, .int 0, .long 0, .int 0])), (a1, .inl (k1, 192, .inr (.inl (fun _ => 0)))), (a2, .inl (k2, 12, .inl (fun _ => 0)))] H := hP
  have hD : va_D A [(q, .inr (7, [.int 0, .ref a1, .ref a2, .null, .null, .null, .int 0, .null, .null, .null, .null, .null, .null, .long 0, .int 0, .int 0, .int 0, .int 0, .null, .int 0, .long 0, .int 0])), (a1, .inl (k1, 192, .inr (.inl (fun _ => 0)))), (a2, .inl (k2, 12, .inl (fun _ => 0)))] := hD
  refine lv_aload_n hx hb d_N_init_21 rfl (lv_at hl 0 rfl) ?_
  refine lv_sipush (v := 192) hx hb d_N_init_22 (by decide) ?_
  refine va_newa (atype := .long) (ty := .long) (a0 := (192, .inr (.inl (fun _ => 0)))) hx hb (hg _ t_685) rfl hK hP hD hS hA (fun _ => rfl) (by decide) (by decide) (by decide) (Nat.le_of_ble_eq_true rfl) (Nat.le_of_ble_eq_true rfl) d_N_init_25 (fun a3 k3 H hK hP hD hS => ?_)
  have hP : va_P (dC, dI) vwCl [(q, .inr (7, [.int 0, .ref a1, .ref a2, .null, .null, .null, .int 0, .null, .null, .null, .null, .null, .null, .long 0, .int 0, .int 0, .int 0, .int 0, .null, .int 0, .long 0, .int 0])), (a1, .inl (k1, 192, .inr (.inl (fun _ => 0)))), (a2, .inl (k2, 12, .inl (fun _ => 0))), (a3, .inl (k3, 192, .inr (.inl (fun _ => 0))))] H := hP
  have hD : va_D A [(q, .inr (7, [.int 0, .ref a1, .ref a2, .null, .null, .null, .int 0, .null, .null, .null, .null, .null, .null, .long 0, .int 0, .int 0, .int 0, .int 0, .null, .int 0, .long 0, .int 0])), (a1, .inl (k1, 192, .inr (.inl (fun _ => 0)))), (a2, .inl (k2, 12, .inl (fun _ => 0))), (a3, .inl (k3, 192, .inr (.inl (fun _ => 0))))] := hD
  have hK : va_K (dC, dI) vwCl [(k1, .long), (k2, .boolean), (k3, .long)] s := hK
  refine va_putF (D := (dC, dI)) (ci := 7) (v := .ref a3) (ty := .array .long) (C := R_N) (T := T_N) (N := 22) hx hb hg in_N ty_N ty_N_ok nm_N hown hK hP hD hS 0 rfl rfl 3 (by decide) (hg _ t_621) (fun _ h9 => h9) rfl hin rfl (by decide +kernel) rfl rfl (Nat.le_of_ble_eq_true rfl) d_N_init_27 (fun H locs hP hD hS => ?_)
  have hP : va_P (dC, dI) vwCl [(q, .inr (7, [.int 0, .ref a1, .ref a2, .ref a3, .null, .null, .int 0, .null, .null, .null, .null, .null, .null, .long 0, .int 0, .int 0, .int 0, .int 0, .null, .int 0, .long 0, .int 0])), (a1, .inl (k1, 192, .inr (.inl (fun _ => 0)))), (a2, .inl (k2, 12, .inl (fun _ => 0))), (a3, .inl (k3, 192, .inr (.inl (fun _ => 0))))] H := hP
  have hD : va_D A [(q, .inr (7, [.int 0, .ref a1, .ref a2, .ref a3, .null, .null, .int 0, .null, .null, .null, .null, .null, .null, .long 0, .int 0, .int 0, .int 0, .int 0, .null, .int 0, .long 0, .int 0])), (a1, .inl (k1, 192, .inr (.inl (fun _ => 0)))), (a2, .inl (k2, 12, .inl (fun _ => 0))), (a3, .inl (k3, 192, .inr (.inl (fun _ => 0))))] := hD
  refine lv_aload_n hx hb d_N_init_30 rfl (lv_at hl 0 rfl) ?_
  refine lv_bipush (v := 12) hx hb d_N_init_31 (by decide) ?_
  refine va_newa (atype := .boolean) (ty := .boolean) (a0 := (12, .inl (fun _ => 0))) hx hb (hg _ t_37) rfl hK hP hD hS hA (fun _ => rfl) (by decide) (by decide) (by decide) (Nat.le_of_ble_eq_true rfl) (Nat.le_of_ble_eq_true rfl) d_N_init_33 (fun a4 k4 H hK hP hD hS => ?_)
  have hP : va_P (dC, dI) vwCl [(q, .inr (7, [.int 0, .ref a1, .ref a2, .ref a3, .null, .null, .int 0, .null, .null, .null, .null, .null, .null, .long 0, .int 0, .int 0, .int 0, .int 0, .null, .int 0, .long 0, .int 0])), (a1, .inl (k1, 192, .inr (.inl (fun _ => 0)))), (a2, .inl (k2, 12, .inl (fun _ => 0))), (a3, .inl (k3, 192, .inr (.inl (fun _ => 0)))), (a4, .inl (k4, 12, .inl (fun _ => 0)))] H := hP
  have hD : va_D A [(q, .inr (7, [.int 0, .ref a1, .ref a2, .ref a3, .null, .null, .int 0, .null, .null, .null, .null, .null, .null, .long 0, .int 0, .int 0, .int 0, .int 0, .null, .int 0, .long 0, .int 0])), (a1, .inl (k1, 192, .inr (.inl (fun _ => 0)))), (a2, .inl (k2, 12, .inl (fun _ => 0))), (a3, .inl (k3, 192, .inr (.inl (fun _ => 0)))), (a4, .inl (k4, 12, .inl (fun _ => 0)))] := hD
  have hK : va_K (dC, dI) vwCl [(k1, .long), (k2, .boolean), (k3, .long), (k4, .boolean)] s := hK
  refine va_putF (D := (dC, dI)) (ci := 7) (v := .ref a4) (ty := .array .boolean) (C := R_N) (T := T_N) (N := 22) hx hb hg in_N ty_N ty_N_ok nm_N hown hK hP hD hS 0 rfl rfl 4 (by decide) (hg _ t_622) (fun _ h9 => h9) rfl hin rfl (by decide +kernel) rfl rfl (Nat.le_of_ble_eq_true rfl) d_N_init_35 (fun H locs hP hD hS => ?_)
  have hP : va_P (dC, dI) vwCl [(q, .inr (7, [.int 0, .ref a1, .ref a2, .ref a3, .ref a4, .null, .int 0, .null, .null, .null, .null, .null, .null, .long 0, .int 0, .int 0, .int 0, .int 0, .null, .int 0, .long 0, .int 0])), (a1, .inl (k1, 192, .inr (.inl (fun _ => 0)))), (a2, .inl (k2, 12, .inl (fun _ => 0))), (a3, .inl (k3, 192, .inr (.inl (fun _ => 0)))), (a4, .inl (k4, 12, .inl (fun _ => 0)))] H := hP
  have hD : va_D A [(q, .inr (7, [.int 0, .ref a1, .ref a2, .ref a3, .ref a4, .null, .int 0, .null, .null, .null, .null, .null, .null, .long 0, .int 0, .int 0, .int 0, .int 0, .null, .int 0, .long 0, .int 0])), (a1, .inl (k1, 192, .inr (.inl (fun _ => 0)))), (a2, .inl (k2, 12, .inl (fun _ => 0))), (a3, .inl (k3, 192, .inr (.inl (fun _ => 0)))), (a4, .inl (k4, 12, .inl (fun _ => 0)))] := hD
  refine lv_aload_n hx hb d_N_init_38 rfl (lv_at hl 0 rfl) ?_
  refine lv_bipush (v := 24) hx hb d_N_init_39 (by decide) ?_
  refine va_newa (atype := .long) (ty := .long) (a0 := (24, .inr (.inl (fun _ => 0)))) hx hb (hg _ t_685) rfl hK hP hD hS hA (fun _ => rfl) (by decide) (by decide) (by decide) (Nat.le_of_ble_eq_true rfl) (Nat.le_of_ble_eq_true rfl) d_N_init_41 (fun a5 k5 H hK hP hD hS => ?_)
  have hP : va_P (dC, dI) vwCl [(q, .inr (7, [.int 0, .ref a1, .ref a2, .ref a3, .ref a4, .null, .int 0, .null, .null, .null, .null, .null, .null, .long 0, .int 0, .int 0, .int 0, .int 0, .null, .int 0, .long 0, .int 0])), (a1, .inl (k1, 192, .inr (.inl (fun _ => 0)))), (a2, .inl (k2, 12, .inl (fun _ => 0))), (a3, .inl (k3, 192, .inr (.inl (fun _ => 0)))), (a4, .inl (k4, 12, .inl (fun _ => 0))), (a5, .inl (k5, 24, .inr (.inl (fun _ => 0))))] H := hP
  have hD : va_D A [(q, .inr (7, [.int 0, .ref a1, .ref a2, .ref a3, .ref a4, .null, .int 0, .null, .null, .null, .null, .null, .null, .long 0, .int 0, .int 0, .int 0, .int 0, .null, .int 0, .long 0, .int 0])), (a1, .inl (k1, 192, .inr (.inl (fun _ => 0)))), (a2, .inl (k2, 12, .inl (fun _ => 0))), (a3, .inl (k3, 192, .inr (.inl (fun _ => 0)))), (a4, .inl (k4, 12, .inl (fun _ => 0))), (a5, .inl (k5, 24, .inr (.inl (fun _ => 0))))] := hD
  have hK : va_K (dC, dI) vwCl [(k1, .long), (k2, .boolean), (k3, .long), (k4, .boolean), (k5, .long)] s := hK
  refine va_putF (D := (dC, dI)) (ci := 7) (v := .ref a5) (ty := .array .long) (C := R_N) (T := T_N) (N := 22) hx hb hg in_N ty_N ty_N_ok nm_N hown hK hP hD hS 0 rfl rfl 5 (by decide) (hg _ t_623) (fun _ h9 => h9) rfl hin rfl (by decide +kernel) rfl rfl (Nat.le_of_ble_eq_true rfl) d_N_init_43 (fun H locs hP hD hS => ?_)
  have hP : va_P (dC, dI) vwCl [(q, .inr (7, [.int 0, .ref a1, .ref a2, .ref a3, .ref a4, .ref a5, .int 0, .null, .null, .null, .null, .null, .null, .long 0, .int 0, .int 0, .int 0, .int 0, .null, .int 0, .long 0, .int 0])), (a1, .inl (k1, 192, .inr (.inl (fun _ => 0)))), (a2, .inl (k2, 12, .inl (fun _ => 0))), (a3, .inl (k3, 192, .inr (.inl (fun _ => 0)))), (a4, .inl (k4, 12, .inl (fun _ => 0))), (a5, .inl (k5, 24, .inr (.inl (fun _ => 0))))] H := hP
  have hD : va_D A [(q, .inr (7, [.int 0, .ref a1, .ref a2, .ref a3, .ref a4, .ref a5, .int 0, .null, .null, .null, .null, .null, .null, .long 0, .int 0, .int 0, .int 0, .int 0, .null, .int 0, .long 0, .int 0])), (a1, .inl (k1, 192, .inr (.inl (fun _ => 0)))), (a2, .inl (k2, 12, .inl (fun _ => 0))), (a3, .inl (k3, 192, .inr (.inl (fun _ => 0)))), (a4, .inl (k4, 12, .inl (fun _ => 0))), (a5, .inl (k5, 24, .inr (.inl (fun _ => 0))))] := hD
  refine lv_aload_n hx hb d_N_init_46 rfl (lv_at hl 0 rfl) ?_
  refine lv_bipush (v := 84) hx hb d_N_init_47 (by decide) ?_
  refine va_newa (atype := .int) (ty := .int) (a0 := (84, .inl (fun _ => 0))) hx hb (hg _ t_38) rfl hK hP hD hS hA (fun _ => rfl) (by decide) (by decide) (by decide) (Nat.le_of_ble_eq_true rfl) (Nat.le_of_ble_eq_true rfl) d_N_init_49 (fun a6 k6 H hK hP hD hS => ?_)
  have hP : va_P (dC, dI) vwCl [(q, .inr (7, [.int 0, .ref a1, .ref a2, .ref a3, .ref a4, .ref a5, .int 0, .null, .null, .null, .null, .null, .null, .long 0, .int 0, .int 0, .int 0, .int 0, .null, .int 0, .long 0, .int 0])), (a1, .inl (k1, 192, .inr (.inl (fun _ => 0)))), (a2, .inl (k2, 12, .inl (fun _ => 0))), (a3, .inl (k3, 192, .inr (.inl (fun _ => 0)))), (a4, .inl (k4, 12, .inl (fun _ => 0))), (a5, .inl (k5, 24, .inr (.inl (fun _ => 0)))), (a6, .inl (k6, 84, .inl (fun _ => 0)))] H := hP
  have hD : va_D A [(q, .inr (7, [.int 0, .ref a1, .ref a2, .ref a3, .ref a4, .ref a5, .int 0, .null, .null, .null, .null, .null, .null, .long 0, .int 0, .int 0, .int 0, .int 0, .null, .int 0, .long 0, .int 0])), (a1, .inl (k1, 192, .inr (.inl (fun _ => 0)))), (a2, .inl (k2, 12, .inl (fun _ => 0))), (a3, .inl (k3, 192, .inr (.inl (fun _ => 0)))), (a4, .inl (k4, 12, .inl (fun _ => 0))), (a5, .inl (k5, 24, .inr (.inl (fun _ => 0)))), (a6, .inl (k6, 84, .inl (fun _ => 0)))] := hD
  have hK : va_K (dC, dI) vwCl [(k1, .long), (k2, .boolean), (k3, .long), (k4, .boolean), (k5, .long), (k6, .int)] s := hK
  refine va_putF (D := (dC, dI)) (ci := 7) (v := .ref a6) (ty := .array .int) (C := R_N) (T := T_N) (N := 22) hx hb hg in_N ty_N ty_N_ok nm_N hown hK hP hD hS 0 rfl rfl 7 (by decide) (hg _ t_625) (fun _ h9 => h9) rfl hin rfl (by decide +kernel) rfl rfl (Nat.le_of_ble_eq_true rfl) d_N_init_51 (fun H locs hP hD hS => ?_)
  have hP : va_P (dC, dI) vwCl [(q, .inr (7, [.int 0, .ref a1, .ref a2, .ref a3, .ref a4, .ref a5, .int 0, .ref a6, .null, .null, .null, .null, .null, .long 0, .int 0, .int 0, .int 0, .int 0, .null, .int 0, .long 0, .int 0])), (a1, .inl (k1, 192, .inr (.inl (fun _ => 0)))), (a2, .inl (k2, 12, .inl (fun _ => 0))), (a3, .inl (k3, 192, .inr (.inl (fun _ => 0)))), (a4, .inl (k4, 12, .inl (fun _ => 0))), (a5, .inl (k5, 24, .inr (.inl (fun _ => 0)))), (a6, .inl (k6, 84, .inl (fun _ => 0)))] H := hP
  have hD : va_D A [(q, .inr (7, [.int 0, .ref a1, .ref a2, .ref a3, .ref a4, .ref a5, .int 0, .ref a6, .null, .null, .null, .null, .null, .long 0, .int 0, .int 0, .int 0, .int 0, .null, .int 0, .long 0, .int 0])), (a1, .inl (k1, 192, .inr (.inl (fun _ => 0)))), (a2, .inl (k2, 12, .inl (fun _ => 0))), (a3, .inl (k3, 192, .inr (.inl (fun _ => 0)))), (a4, .inl (k4, 12, .inl (fun _ => 0))), (a5, .inl (k5, 24, .inr (.inl (fun _ => 0)))), (a6, .inl (k6, 84, .inl (fun _ => 0)))] := hD
  refine lv_aload_n hx hb d_N_init_54 rfl (lv_at hl 0 rfl) ?_
  refine lv_bipush (v := 84) hx hb d_N_init_55 (by decide) ?_
  refine va_newa (atype := .int) (ty := .int) (a0 := (84, .inl (fun _ => 0))) hx hb (hg _ t_38) rfl hK hP hD hS hA (fun _ => rfl) (by decide) (by decide) (by decide) (Nat.le_of_ble_eq_true rfl) (Nat.le_of_ble_eq_true rfl) d_N_init_57 (fun a7 k7 H hK hP hD hS => ?_)
  have hP : va_P (dC, dI) vwCl [(q, .inr (7, [.int 0, .ref a1, .ref a2, .ref a3, .ref a4, .ref a5, .int 0, .ref a6, .null, .null, .null, .null, .null, .long 0, .int 0, .int 0, .int 0, .int 0, .null, .int 0, .long 0, .int 0])), (a1, .inl (k1, 192, .inr (.inl (fun _ => 0)))), (a2, .inl (k2, 12, .inl (fun _ => 0))), (a3, .inl (k3, 192, .inr (.inl (fun _ => 0)))), (a4, .inl (k4, 12, .inl (fun _ => 0))), (a5, .inl (k5, 24, .inr (.inl (fun _ => 0)))), (a6, .inl (k6, 84, .inl (fun _ => 0))), (a7, .inl (k7, 84, .inl (fun _ => 0)))] H := hP
  have hD : va_D A [(q, .inr (7, [.int 0, .ref a1, .ref a2, .ref a3, .ref a4, .ref a5, .int 0, .ref a6, .null, .null, .null, .null, .null, .long 0, .int 0, .int 0, .int 0, .int 0, .null, .int 0, .long 0, .int 0])), (a1, .inl (k1, 192, .inr (.inl (fun _ => 0)))), (a2, .inl (k2, 12, .inl (fun _ => 0))), (a3, .inl (k3, 192, .inr (.inl (fun _ => 0)))), (a4, .inl (k4, 12, .inl (fun _ => 0))), (a5, .inl (k5, 24, .inr (.inl (fun _ => 0)))), (a6, .inl (k6, 84, .inl (fun _ => 0))), (a7, .inl (k7, 84, .inl (fun _ => 0)))] := hD
  have hK : va_K (dC, dI) vwCl [(k1, .long), (k2, .boolean), (k3, .long), (k4, .boolean), (k5, .long), (k6, .int), (k7, .int)] s := hK
  refine va_putF (D := (dC, dI)) (ci := 7) (v := .ref a7) (ty := .array .int) (C := R_N) (T := T_N) (N := 22) hx hb hg in_N ty_N ty_N_ok nm_N hown hK hP hD hS 0 rfl rfl 8 (by decide) (hg _ t_626) (fun _ h9 => h9) rfl hin rfl (by decide +kernel) rfl rfl (Nat.le_of_ble_eq_true rfl) d_N_init_59 (fun H locs hP hD hS => ?_)
  have hP : va_P (dC, dI) vwCl [(q, .inr (7, [.int 0, .ref a1, .ref a2, .ref a3, .ref a4, .ref a5, .int 0, .ref a6, .ref a7, .null, .null, .null, .null, .long 0, .int 0, .int 0, .int 0, .int 0, .null, .int 0, .long 0, .int 0])), (a1, .inl (k1, 192, .inr (.inl (fun _ => 0)))), (a2, .inl (k2, 12, .inl (fun _ => 0))), (a3, .inl (k3, 192, .inr (.inl (fun _ => 0)))), (a4, .inl (k4, 12, .inl (fun _ => 0))), (a5, .inl (k5, 24, .inr (.inl (fun _ => 0)))), (a6, .inl (k6, 84, .inl (fun _ => 0))), (a7, .inl (k7, 84, .inl (fun _ => 0)))] H := hP
  have hD : va_D A [(q, .inr (7, [.int 0, .ref a1, .ref a2, .ref a3, .ref a4, .ref a5, .int 0, .ref a6, .ref a7, .null, .null, .null, .null, .long 0, .int 0, .int 0, .int 0, .int 0, .null, .int 0, .long 0, .int 0])), (a1, .inl (k1, 192, .inr (.inl (fun _ => 0)))), (a2, .inl (k2, 12, .inl (fun _ => 0))), (a3, .inl (k3, 192, .inr (.inl (fun _ => 0)))), (a4, .inl (k4, 12, .inl (fun _ => 0))), (a5, .inl (k5, 24, .inr (.inl (fun _ => 0)))), (a6, .inl (k6, 84, .inl (fun _ => 0))), (a7, .inl (k7, 84, .inl (fun _ => 0)))] := hD
  refine lv_aload_n hx hb d_N_init_62 rfl (lv_at hl 0 rfl) ?_
  refine lv_bipush (v := 84) hx hb d_N_init_63 (by decide) ?_
  refine va_newa (atype := .int) (ty := .int) (a0 := (84, .inl (fun _ => 0))) hx hb (hg _ t_38) rfl hK hP hD hS hA (fun _ => rfl) (by decide) (by decide) (by decide) (Nat.le_of_ble_eq_true rfl) (Nat.le_of_ble_eq_true rfl) d_N_init_65 (fun a8 k8 H hK hP hD hS => ?_)
  have hP : va_P (dC, dI) vwCl [(q, .inr (7, [.int 0, .ref a1, .ref a2, .ref a3, .ref a4, .ref a5, .int 0, .ref a6, .ref a7, .null, .null, .null, .null, .long 0, .int 0, .int 0, .int 0, .int 0, .null, .int 0, .long 0, .int 0])), (a1, .inl (k1, 192, .inr (.inl (fun _ => 0)))), (a2, .inl (k2, 12, .inl (fun _ => 0))), (a3, .inl (k3, 192, .inr (.inl (fun _ => 0)))), (a4, .inl (k4, 12, .inl (fun _ => 0))), (a5, .inl (k5, 24, .inr (.inl (fun _ => 0)))), (a6, .inl (k6, 84, .inl (fun _ => 0))), (a7, .inl (k7, 84, .inl (fun _ => 0))), (a8, .inl (k8, 84, .inl (fun _ => 0)))] H := hP
  have hD : va_D A [(q, .inr (7, [.int 0, .ref a1, .ref a2, .ref a3, .ref a4, .ref a5, .int 0, .ref a6, .ref a7, .null, .null, .null, .null, .long 0, .int 0, .int 0, .int 0, .int 0, .null, .int 0, .long 0, .int 0])), (a1, .inl (k1, 192, .inr (.inl (fun _ => 0)))), (a2, .inl (k2, 12, .inl (fun _ => 0))), (a3, .inl (k3, 192, .inr (.inl (fun _ => 0)))), (a4, .inl (k4, 12, .inl (fun _ => 0))), (a5, .inl (k5, 24, .inr (.inl (fun _ => 0)))), (a6, .inl (k6, 84, .inl (fun _ => 0))), (a7, .inl (k7, 84, .inl (fun _ => 0))), (a8, .inl (k8, 84, .inl (fun _ => 0)))] := hD
  have hK : va_K (dC, dI) vwCl [(k1, .long), (k2, .boolean), (k3, .long), (k4, .boolean), (k5, .long), (k6, .int), (k7, .int), (k8, .int)] s := hK
  refine va_putF (D := (dC, dI)) (ci := 7) (v := .ref a8) (ty := .array .int) (C := R_N) (T := T_N) (N := 22) hx hb hg in_N ty_N ty_N_ok nm_N hown hK hP hD hS 0 rfl rfl 9 (by decide) (hg _ t_627) (fun _ h9 => h9) rfl hin rfl (by decide +kernel) rfl rfl (Nat.le_of_ble_eq_true rfl) d_N_init_67 (fun H locs hP hD hS => ?_)
  have hP : va_P (dC, dI) vwCl [(q, .inr (7, [.int 0, .ref a1, .ref a2, .ref a3, .ref a4, .ref a5, .int 0, .ref a6, .ref a7, .ref a8, .null, .null, .null, .long 0, .int 0, .int 0, .int 0, .int 0, .null, .int 0, .long 0, .int 0])), (a1, .inl (k1, 192, .inr (.inl (fun _ => 0)))), (a2, .inl (k2, 12, .inl (fun _ => 0))), (a3, .inl (k3, 192, .inr (.inl (fun _ => 0)))), (a4, .inl (k4, 12, .inl (fun _ => 0))), (a5, .inl (k5, 24, .inr (.inl (fun _ => 0)))), (a6, .inl (k6, 84, .inl (fun _ => 0))), (a7, .inl (k7, 84, .inl (fun _ => 0))), (a8, .inl (k8, 84, .inl (fun _ => 0)))] H := hP
  have hD : va_D A [(q, .inr (7, [.int 0, .ref a1, .ref a2, .ref a3, .ref a4, .ref a5, .int 0, .ref a6, .ref a7, .ref a8, .null, .null, .null, .long 0, .int 0, .int 0, .int 0, .int 0, .null, .int 0, .long 0, .int 0])), (a1, .inl (k1, 192, .inr (.inl (fun _ => 0)))), (a2, .inl (k2, 12, .inl (fun _ => 0))), (a3, .inl (k3, 192, .inr (.inl (fun _ => 0)))), (a4, .inl (k4, 12, .inl (fun _ => 0))), (a5, .inl (k5, 24, .inr (.inl (fun _ => 0)))), (a6, .inl (k6, 84, .inl (fun _ => 0))), (a7, .inl (k7, 84, .inl (fun _ => 0))), (a8, .inl (k8, 84, .inl (fun _ => 0)))] := hD
  refine lv_aload_n hx hb d_N_init_70 rfl (lv_at hl 0 rfl) ?_
  refine lv_bipush (v := 84) hx hb d_N_init_71 (by decide) ?_
  refine va_newa (atype := .int) (ty := .int) (a0 := (84, .inl (fun _ => 0))) hx hb (hg _ t_38) rfl hK hP hD hS hA (fun _ => rfl) (by decide) (by decide) (by decide) (Nat.le_of_ble_eq_true rfl) (Nat.le_of_ble_eq_true rfl) d_N_init_73 (fun a9 k9 H hK hP hD hS => ?_)
  have hP : va_P (dC, dI) vwCl [(q, .inr (7, [.int 0, .ref a1, .ref a2, .ref a3, .ref a4, .ref a5, .int 0, .ref a6, .ref a7, .ref a8, .null, .null, .null, .long 0, .int 0, .int 0, .int 0, .int 0, .null, .int 0, .long 0, .int 0])), (a1, .inl (k1, 192, .inr (.inl (fun _ => 0)))), (a2, .inl (k2, 12, .inl (fun _ => 0))), (a3, .inl (k3, 192, .inr (.inl (fun _ => 0)))), (a4, .inl (k4, 12, .inl (fun _ => 0))), (a5, .inl (k5, 24, .inr (.inl (fun _ => 0)))), (a6, .inl (k6, 84, .inl (fun _ => 0))), (a7, .inl (k7, 84, .inl (fun _ => 0))), (a8, .inl (k8, 84, .inl (fun _ => 0))), (a9, .inl (k9, 84, .inl (fun _ => 0)))] H := hP
  have hD : va_D A [(q, .inr (7, [.int 0, .ref a1, .ref a2, .ref a3, .ref a4, .ref a5, .int 0, .ref a6, .ref a7, .ref a8, .null, .null, .null, .long 0, .int 0, .int 0, .int 0, .int 0, .null, .int 0, .long 0, .int 0])), (a1, .inl (k1, 192, .inr (.inl (fun _ => 0)))), (a2, .inl (k2, 12, .inl (fun _ => 0))), (a3, .inl (k3, 192, .inr (.inl (fun _ => 0)))), (a4, .inl (k4, 12, .inl (fun _ => 0))), (a5, .inl (k5, 24, .inr (.inl (fun _ => 0)))), (a6, .inl (k6, 84, .inl (fun _ => 0))), (a7, .inl (k7, 84, .inl (fun _ => 0))), (a8, .inl (k8, 84, .inl (fun _ => 0))), (a9, .inl (k9, 84, .inl (fun _ => 0)))] := hD
  have hK : va_K (dC, dI) vwCl [(k1, .long), (k2, .boolean), (k3, .long), (k4, .boolean), (k5, .long), (k6, .int), (k7, .int), (k8, .int), (k9, .int)] s := hK
  refine va_putF (D := (dC, dI)) (ci := 7) (v := .ref a9) (ty := .array .int) (C := R_N) (T := T_N) (N := 22) hx hb hg in_N ty_N ty_N_ok nm_N hown hK hP hD hS 0 rfl rfl 10 (by decide) (hg _ t_628) (fun _ h9 => h9) rfl hin rfl (by decide +kernel) rfl rfl (Nat.le_of_ble_eq_true rfl) d_N_init_75 (fun H locs hP hD hS => ?_)
  have hP : va_P (dC, dI) vwCl [(q, .inr (7, [.int 0, .ref a1, .ref a2, .ref a3, .ref a4, .ref a5, .int 0, .ref a6, .ref a7, .ref a8, .ref a9, .null, .null, .long 0, .int 0, .int 0, .int 0, .int 0, .null, .int 0, .long 0, .int 0])), (a1, .inl (k1, 192, .inr (.inl (fun _ => 0)))), (a2, .inl (k2, 12, .inl (fun _ => 0))), (a3, .inl (k3, 192, .inr (.inl (fun _ => 0)))), (a4, .inl (k4, 12, .inl (fun _ => 0))), (a5, .inl (k5, 24, .inr (.inl (fun _ => 0)))), (a6, .inl (k6, 84, .inl (fun _ => 0))), (a7, .inl (k7, 84, .inl (fun _ => 0))), (a8, .inl (k8, 84, .inl (fun _ => 0))), (a9, .inl (k9, 84, .inl (fun _ => 0)))] H := hP
  have hD : va_D A [(q, .inr (7, [.int 0, .ref a1, .ref a2, .ref a3, .ref a4, .ref a5, .int 0, .ref a6, .ref a7, .ref a8, .ref a9, .null, .null, .long 0, .int 0, .int 0, .int 0, .int 0, .null, .int 0, .long 0, .int 0])), (a1, .inl (k1, 192, .inr (.inl (fun _ => 0)))), (a2, .inl (k2, 12, .inl (fun _ => 0))), (a3, .inl (k3, 192, .inr (.inl (fun _ => 0)))), (a4, .inl (k4, 12, .inl (fun _ => 0))), (a5, .inl (k5, 24, .inr (.inl (fun _ => 0)))), (a6, .inl (k6, 84, .inl (fun _ => 0))), (a7, .inl (k7, 84, .inl (fun _ => 0))), (a8, .inl (k8, 84, .inl (fun _ => 0))), (a9, .inl (k9, 84, .inl (fun _ => 0)))] := hD
  refine lv_aload_n hx hb d_N_init_78 rfl (lv_at hl 0 rfl) ?_
  refine lv_bipush (v := 6) hx hb d_N_init_79 (by decide) ?_
  refine va_newa (atype := .int) (ty := .int) (a0 := (6, .inl (fun _ => 0))) hx hb (hg _ t_38) rfl hK hP hD hS hA (fun _ => rfl) (by decide) (by decide) (by decide) (Nat.le_of_ble_eq_true rfl) (Nat.le_of_ble_eq_true rfl) d_N_init_81 (fun a10 k10 H hK hP hD hS => ?_)
  have hP : va_P (dC, dI) vwCl [(q, .inr (7, [.int 0, .ref a1, .ref a2, .ref a3, .ref a4, .ref a5, .int 0, .ref a6, .ref a7, .ref a8, .ref a9, .null, .null, .long 0, .int 0, .int 0, .int 0, .int 0, .null, .int 0, .long 0, .int 0])), (a1, .inl (k1, 192, .inr (.inl (fun _ => 0)))), (a2, .inl (k2, 12, .inl (fun _ => 0))), (a3, .inl (k3, 192, .inr (.inl (fun _ => 0)))), (a4, .inl (k4, 12, .inl (fun _ => 0))), (a5, .inl (k5, 24, .inr (.inl (fun _ => 0)))), (a6, .inl (k6, 84, .inl (fun _ => 0))), (a7, .inl (k7, 84, .inl (fun _ => 0))), (a8, .inl (k8, 84, .inl (fun _ => 0))), (a9, .inl (k9, 84, .inl (fun _ => 0))), (a10, .inl (k10, 6, .inl (fun _ => 0)))] H := hP
  have hD : va_D A [(q, .inr (7, [.int 0, .ref a1, .ref a2, .ref a3, .ref a4, .ref a5, .int 0, .ref a6, .ref a7, .ref a8, .ref a9, .null, .null, .long 0, .int 0, .int 0, .int 0, .int 0, .null, .int 0, .long 0, .int 0])), (a1, .inl (k1, 192, .inr (.inl (fun _ => 0)))), (a2, .inl (k2, 12, .inl (fun _ => 0))), (a3, .inl (k3, 192, .inr (.inl (fun _ => 0)))), (a4, .inl (k4, 12, .inl (fun _ => 0))), (a5, .inl (k5, 24, .inr (.inl (fun _ => 0)))), (a6, .inl (k6, 84, .inl (fun _ => 0))), (a7, .inl (k7, 84, .inl (fun _ => 0))), (a8, .inl (k8, 84, .inl (fun _ => 0))), (a9, .inl (k9, 84, .inl (fun _ => 0))), (a10, .inl (k10, 6, .inl (fun _ => 0)))] := hD
  have hK : va_K (dC, dI) vwCl [(k1, .long), (k2, .boolean), (k3, .long), (k4, .boolean), (k5, .long), (k6, .int), (k7, .int), (k8, .int), (k9, .int), (k10, .int)] s := hK
  refine va_putF (D := (dC, dI)) (ci := 7) (v := .ref a10) (ty := .array .int) (C := R_N) (T := T_N) (N := 22) hx hb hg in_N ty_N ty_N_ok nm_N hown hK hP hD hS 0 rfl rfl 11 (by decide) (hg _ t_629) (fun _ h9 => h9) rfl hin rfl (by decide +kernel) rfl rfl (Nat.le_of_ble_eq_true rfl) d_N_init_83 (fun H locs hP hD hS => ?_)
  have hP : va_P (dC, dI) vwCl [(q, .inr (7, [.int 0, .ref a1, .ref a2, .ref a3, .ref a4, .ref a5, .int 0, .ref a6, .ref a7, .ref a8, .ref a9, .ref a10, .null, .long 0, .int 0, .int 0, .int 0, .int 0, .null, .int 0, .long 0, .int 0])), (a1, .inl (k1, 192, .inr (.inl (fun _ => 0)))), (a2, .inl (k2, 12, .inl (fun _ => 0))), (a3, .inl (k3, 192, .inr (.inl (fun _ => 0)))), (a4, .inl (k4, 12, .inl (fun _ => 0))), (a5, .inl (k5, 24, .inr (.inl (fun _ => 0)))), (a6, .inl (k6, 84, .inl (fun _ => 0))), (a7, .inl (k7, 84, .inl (fun _ => 0))), (a8, .inl (k8, 84, .inl (fun _ => 0))), (a9, .inl (k9, 84, .inl (fun _ => 0))), (a10, .inl (k10, 6, .inl (fun _ => 0)))] H := hP
  have hD : va_D A [(q, .inr (7, [.int 0, .ref a1, .ref a2, .ref a3, .ref a4, .ref a5, .int 0, .ref a6, .ref a7, .ref a8, .ref a9, .ref a10, .null, .long 0, .int 0, .int 0, .int 0, .int 0, .null, .int 0, .long 0, .int 0])), (a1, .inl (k1, 192, .inr (.inl (fun _ => 0)))), (a2, .inl (k2, 12, .inl (fun _ => 0))), (a3, .inl (k3, 192, .inr (.inl (fun _ => 0)))), (a4, .inl (k4, 12, .inl (fun _ => 0))), (a5, .inl (k5, 24, .inr (.inl (fun _ => 0)))), (a6, .inl (k6, 84, .inl (fun _ => 0))), (a7, .inl (k7, 84, .inl (fun _ => 0))), (a8, .inl (k8, 84, .inl (fun _ => 0))), (a9, .inl (k9, 84, .inl (fun _ => 0))), (a10, .inl (k10, 6, .inl (fun _ => 0)))] := hD
  refine lv_aload_n hx hb d_N_init_86 rfl (lv_at hl 0 rfl) ?_
  refine lv_bipush (v := 24) hx hb d_N_init_87 (by decide) ?_
  refine va_newa (atype := .long) (ty := .long) (a0 := (24, .inr (.inl (fun _ => 0)))) hx hb (hg _ t_685) rfl hK hP hD hS hA (fun _ => rfl) (by decide) (by decide) (by decide) (Nat.le_of_ble_eq_true rfl) (Nat.le_of_ble_eq_true rfl) d_N_init_89 (fun a11 k11 H hK hP hD hS => ?_)
  have hP : va_P (dC, dI) vwCl [(q, .inr (7, [.int 0, .ref a1, .ref a2, .ref a3, .ref a4, .ref a5, .int 0, .ref a6, .ref a7, .ref a8, .ref a9, .ref a10, .null, .long 0, .int 0, .int 0, .int 0, .int 0, .null, .int 0, .long 0, .int 0])), (a1, .inl (k1, 192, .inr (.inl (fun _ => 0)))), (a2, .inl (k2, 12, .inl (fun _ => 0))), (a3, .inl (k3, 192, .inr (.inl (fun _ => 0)))), (a4, .inl (k4, 12, .inl (fun _ => 0))), (a5, .inl (k5, 24, .inr (.inl (fun _ => 0)))), (a6, .inl (k6, 84, .inl (fun _ => 0))), (a7, .inl (k7, 84, .inl (fun _ => 0))), (a8, .inl (k8, 84, .inl (fun _ => 0))), (a9, .inl (k9, 84, .inl (fun _ => 0))), (a10, .inl (k10, 6, .inl (fun _ => 0))), (a11, .inl (k11, 24, .inr (.inl (fun _ => 0))))] H := hP
  have hD : va_D A [(q, .inr (7, [.int 0, .ref a1, .ref a2, .ref a3, .ref a4, .ref a5, .int 0, .ref a6, .ref a7, .ref a8, .ref a9, .ref a10, .null, .long 0, .int 0, .int 0, .int 0, .int 0, .null, .int 0, .long 0, .int 0])), (a1, .inl (k1, 192, .inr (.inl (fun _ => 0)))), (a2, .inl (k2, 12, .inl (fun _ => 0))), (a3, .inl (k3, 192, .inr (.inl (fun _ => 0)))), (a4, .inl (k4, 12, .inl (fun _ => 0))), (a5, .inl (k5, 24, .inr (.inl (fun _ => 0)))), (a6, .inl (k6, 84, .inl (fun _ => 0))), (a7, .inl (k7, 84, .inl (fun _ => 0))), (a8, .inl (k8, 84, .inl (fun _ => 0))), (a9, .inl (k9, 84, .inl (fun _ => 0))), (a10, .inl (k10, 6, .inl (fun _ => 0))), (a11, .inl (k11, 24, .inr (.inl (fun _ => 0))))] := hD
  have hK : va_K (dC, dI) vwCl [(k1, .long), (k2, .boolean), (k3, .long), (k4, .boolean), (k5, .long), (k6, .int), (k7, .int), (k8, .int), (k9, .int), (k10, .int), (k11, .long)] s := hK
  refine va_putF (D := (dC, dI)) (ci := 7) (v := .ref a11) (ty := .array .long) (C := R_N) (T := T_N) (N := 22) hx hb hg in_N ty_N ty_N_ok nm_N hown hK hP hD hS 0 rfl rfl 12 (by decide) (hg _ t_630) (fun _ h9 => h9) rfl hin rfl (by decide +kernel) rfl rfl (Nat.le_of_ble_eq_true rfl) d_N_init_91 (fun H locs hP hD hS => ?_)
  have hP : va_P (dC, dI) vwCl [(q, .inr (7, [.int 0, .ref a1, .ref a2, .ref a3, .ref a4, .ref a5, .int 0, .ref a6, .ref a7, .ref a8, .ref a9, .ref a10, .ref a11, .long 0, .int 0, .int 0, .int 0, .int 0, .null, .int 0, .long 0, .int 0])), (a1, .inl (k1, 192, .inr (.inl (fun _ => 0)))), (a2, .inl (k2, 12, .inl (fun _ => 0))), (a3, .inl (k3, 192, .inr (.inl (fun _ => 0)))), (a4, .inl (k4, 12, .inl (fun _ => 0))), (a5, .inl (k5, 24, .inr (.inl (fun _ => 0)))), (a6, .inl (k6, 84, .inl (fun _ => 0))), (a7, .inl (k7, 84, .inl (fun _ => 0))), (a8, .inl (k8, 84, .inl (fun _ => 0))), (a9, .inl (k9, 84, .inl (fun _ => 0))), (a10, .inl (k10, 6, .inl (fun _ => 0))), (a11, .inl (k11, 24, .inr (.inl (fun _ => 0))))] H := hP
  have hD : va_D A [(q, .inr (7, [.int 0, .ref a1, .ref a2, .ref a3, .ref a4, .ref a5, .int 0, .ref a6, .ref a7, .ref a8, .ref a9, .ref a10, .ref a11, .long 0, .int 0, .int 0, .int 0, .int 0, .null, .int 0, .long 0, .int 0])), (a1, .inl (k1, 192, .inr (.inl (fun _ => 0)))), (a2, .inl (k2, 12, .inl (fun _ => 0))), (a3, .inl (k3, 192, .inr (.inl (fun _ => 0)))), (a4, .inl (k4, 12, .inl (fun _ => 0))), (a5, .inl (k5, 24, .inr (.inl (fun _ => 0)))), (a6, .inl (k6, 84, .inl (fun _ => 0))), (a7, .inl (k7, 84, .inl (fun _ => 0))), (a8, .inl (k8, 84, .inl (fun _ => 0))), (a9, .inl (k9, 84, .inl (fun _ => 0))), (a10, .inl (k10, 6, .inl (fun _ => 0))), (a11, .inl (k11, 24, .inr (.inl (fun _ => 0))))] := hD
  refine lv_aload_n hx hb d_N_init_94 rfl (lv_at hl 0 rfl) ?_
  refine lv_iconst (v := 1) hx hb d_N_init_95 (by decide) ?_
  refine va_put (D := (dC, dI)) (ci := 7) (v := .int 1) (ty := .int) (C := R_N) (T := T_N) (N := 22) hx hb hg in_N ty_N ty_N_ok nm_N hown hK hP hD hS 0 rfl rfl 14 (by decide) (hg _ t_632) (fun _ h9 => h9) rfl (by decide +kernel) rfl rfl (Nat.le_of_ble_eq_true rfl) d_N_init_96 (fun H locs hP hD hS => ?_)
  have hP : va_P (dC, dI) vwCl [(q, .inr (7, [.int 0, .ref a1, .ref a2, .ref a3, .ref a4, .ref a5, .int 0, .ref a6, .ref a7, .ref a8, .ref a9, .ref a10, .ref a11, .long 0, .int 1, .int 0, .int 0, .int 0, .null, .int 0, .long 0, .int 0])), (a1, .inl (k1, 192, .inr (.inl (fun _ => 0)))), (a2, .inl (k2, 12, .inl (fun _ => 0))), (a3, .inl (k3, 192, .inr (.inl (fun _ => 0)))), (a4, .inl (k4, 12, .inl (fun _ => 0))), (a5, .inl (k5, 24, .inr (.inl (fun _ => 0)))), (a6, .inl (k6, 84, .inl (fun _ => 0))), (a7, .inl (k7, 84, .inl (fun _ => 0))), (a8, .inl (k8, 84, .inl (fun _ => 0))), (a9, .inl (k9, 84, .inl (fun _ => 0))), (a10, .inl (k10, 6, .inl (fun _ => 0))), (a11, .inl (k11, 24, .inr (.inl (fun _ => 0))))] H := hP
  have hD : va_D A [(q, .inr (7, [.int 0, .ref a1, .ref a2, .ref a3, .ref a4, .ref a5, .int 0, .ref a6, .ref a7, .ref a8, .ref a9, .ref a10, .ref a11, .long 0, .int 1, .int 0, .int 0, .int 0, .null, .int 0, .long 0, .int 0])), (a1, .inl (k1, 192, .inr (.inl (fun _ => 0)))), (a2, .inl (k2, 12, .inl (fun _ => 0))), (a3, .inl (k3, 192, .inr (.inl (fun _ => 0)))), (a4, .inl (k4, 12, .inl (fun _ => 0))), (a5, .inl (k5, 24, .inr (.inl (fun _ => 0)))), (a6, .inl (k6, 84, .inl (fun _ => 0))), (a7, .inl (k7, 84, .inl (fun _ => 0))), (a8, .inl (k8, 84, .inl (fun _ => 0))), (a9, .inl (k9, 84, .inl (fun _ => 0))), (a10, .inl (k10, 6, .inl (fun _ => 0))), (a11, .inl (k11, 24, .inr (.inl (fun _ => 0))))] := hD
  refine lv_aload_n hx hb d_N_init_99 rfl (lv_at hl 0 rfl) ?_
  refine lv_bipush (v := 6) hx hb d_N_init_100 (by decide) ?_
  refine va_newa (atype := .int) (ty := .int) (a0 := (6, .inl (fun _ => 0))) hx hb (hg _ t_38) rfl hK hP hD hS hA (fun _ => rfl) (by decide) (by decide) (by decide) (Nat.le_of_ble_eq_true rfl) (Nat.le_of_ble_eq_true rfl) d_N_init_102 (fun a12 k12 H hK hP hD hS => ?_)
  have hP : va_P (dC, dI) vwCl [(q, .inr (7, [.int 0, .ref a1, .ref a2, .ref a3, .ref a4, .ref a5, .int 0, .ref a6, .ref a7, .ref a8, .ref a9, .ref a10, .ref a11, .long 0, .int 1, .int 0, .int 0, .int 0, .null, .int 0, .long 0, .int 0])), (a1, .inl (k1, 192, .inr (.inl (fun _ => 0)))), (a2, .inl (k2, 12, .inl (fun _ => 0))), (a3, .inl (k3, 192, .inr (.inl (fun _ => 0)))), (a4, .inl (k4, 12, .inl (fun _ => 0))), (a5, .inl (k5, 24, .inr (.inl (fun _ => 0)))), (a6, .inl (k6, 84, .inl (fun _ => 0))), (a7, .inl (k7, 84, .inl (fun _ => 0))), (a8, .inl (k8, 84, .inl (fun _ => 0))), (a9, .inl (k9, 84, .inl (fun _ => 0))), (a10, .inl (k10, 6, .inl (fun _ => 0))), (a11, .inl (k11, 24, .inr (.inl (fun _ => 0)))), (a12, .inl (k12, 6, .inl (fun _ => 0)))] H := hP
  have hD : va_D A [(q, .inr (7, [.int 0, .ref a1, .ref a2, .ref a3, .ref a4, .ref a5, .int 0, .ref a6, .ref a7, .ref a8, .ref a9, .ref a10, .ref a11, .long 0, .int 1, .int 0, .int 0, .int 0, .null, .int 0, .long 0, .int 0])), (a1, .inl (k1, 192, .inr (.inl (fun _ => 0)))), (a2, .inl (k2, 12, .inl (fun _ => 0))), (a3, .inl (k3, 192, .inr (.inl (fun _ => 0)))), (a4, .inl (k4, 12, .inl (fun _ => 0))), (a5, .inl (k5, 24, .inr (.inl (fun _ => 0)))), (a6, .inl (k6, 84, .inl (fun _ => 0))), (a7, .inl (k7, 84, .inl (fun _ => 0))), (a8, .inl (k8, 84, .inl (fun _ => 0))), (a9, .inl (k9, 84, .inl (fun _ => 0))), (a10, .inl (k10, 6, .inl (fun _ => 0))), (a11, .inl (k11, 24, .inr (.inl (fun _ => 0)))), (a12, .inl (k12, 6, .inl (fun _ => 0)))] := hD
  have hK : va_K (dC, dI) vwCl [(k1, .long), (k2, .boolean), (k3, .long), (k4, .boolean), (k5, .long), (k6, .int), (k7, .int), (k8, .int), (k9, .int), (k10, .int), (k11, .long), (k12, .int)] s := hK
  refine va_putF (D := (dC, dI)) (ci := 7) (v := .ref a12) (ty := .array .int) (C := R_N) (T := T_N) (N := 22) hx hb hg in_N ty_N ty_N_ok nm_N hown hK hP hD hS 0 rfl rfl 18 (by decide) (hg _ t_636) (fun _ h9 => h9) rfl hin rfl (by decide +kernel) rfl rfl (Nat.le_of_ble_eq_true rfl) d_N_init_104 (fun H locs hP hD hS => ?_)
  have hP : va_P (dC, dI) vwCl [(q, .inr (7, [.int 0, .ref a1, .ref a2, .ref a3, .ref a4, .ref a5, .int 0, .ref a6, .ref a7, .ref a8, .ref a9, .ref a10, .ref a11, .long 0, .int 1, .int 0, .int 0, .int 0, .ref a12, .int 0, .long 0, .int 0])), (a1, .inl (k1, 192, .inr (.inl (fun _ => 0)))), (a2, .inl (k2, 12, .inl (fun _ => 0))), (a3, .inl (k3, 192, .inr (.inl (fun _ => 0)))), (a4, .inl (k4, 12, .inl (fun _ => 0))), (a5, .inl (k5, 24, .inr (.inl (fun _ => 0)))), (a6, .inl (k6, 84, .inl (fun _ => 0))), (a7, .inl (k7, 84, .inl (fun _ => 0))), (a8, .inl (k8, 84, .inl (fun _ => 0))), (a9, .inl (k9, 84, .inl (fun _ => 0))), (a10, .inl (k10, 6, .inl (fun _ => 0))), (a11, .inl (k11, 24, .inr (.inl (fun _ => 0)))), (a12, .inl (k12, 6, .inl (fun _ => 0)))] H := hP
  have hD : va_D A [(q, .inr (7, [.int 0, .ref a1, .ref a2, .ref a3, .ref a4, .ref a5, .int 0, .ref a6, .ref a7, .ref a8, .ref a9, .ref a10, .ref a11, .long 0, .int 1, .int 0, .int 0, .int 0, .ref a12, .int 0, .long 0, .int 0])), (a1, .inl (k1, 192, .inr (.inl (fun _ => 0)))), (a2, .inl (k2, 12, .inl (fun _ => 0))), (a3, .inl (k3, 192, .inr (.inl (fun _ => 0)))), (a4, .inl (k4, 12, .inl (fun _ => 0))), (a5, .inl (k5, 24, .inr (.inl (fun _ => 0)))), (a6, .inl (k6, 84, .inl (fun _ => 0))), (a7, .inl (k7, 84, .inl (fun _ => 0))), (a8, .inl (k8, 84, .inl (fun _ => 0))), (a9, .inl (k9, 84, .inl (fun _ => 0))), (a10, .inl (k10, 6, .inl (fun _ => 0))), (a11, .inl (k11, 24, .inr (.inl (fun _ => 0)))), (a12, .inl (k12, 6, .inl (fun _ => 0)))] := hD
  refine W.widen (k := 12) (n := 804) (Nat.le_of_ble_eq_true rfl) (Nat.le_of_ble_eq_true rfl) ?_
  exact W.vret hx hb hr (fun t ht hW => ⟨⟨(), rfl, trivial, a1, a2, a3, a4, a5, a6, a7, a8, a9, a10, a11, a12, k1, k2, k3, k4, k5, k6, k7, k8, k9, k10, k11, k12, by rw [ht]; exact hP, va_K.moved hW.alike hK, hD⟩, hS.F ht⟩) hS.2.2 d_N_init_107
