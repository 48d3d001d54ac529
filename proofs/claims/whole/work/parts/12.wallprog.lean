theorem d_W_add_0 : decode b_W_add 0 = .ok (.aload_n 0, 1) := by decide +kernel
theorem d_W_add_1 : decode b_W_add 1 = .ok (.getfield 9, 3) := by decide +kernel
theorem d_W_add_4 : decode b_W_add 4 = .ok (.aload_n 0, 1) := by decide +kernel
theorem d_W_add_5 : decode b_W_add 5 = .ok (.getfield 18, 3) := by decide +kernel
theorem d_W_add_8 : decode b_W_add 8 = .ok (.iconst 2, 1) := by decide +kernel
theorem d_W_add_9 : decode b_W_add 9 = .ok (.imul, 1) := by decide +kernel
theorem d_W_add_10 : decode b_W_add 10 = .ok (.iconst 0, 1) := by decide +kernel
theorem d_W_add_11 : decode b_W_add 11 = .ok (.iadd, 1) := by decide +kernel
theorem d_W_add_12 : decode b_W_add 12 = .ok (.iload_n 1, 1) := by decide +kernel
theorem d_W_add_13 : decode b_W_add 13 = .ok (.bipush 8, 2) := by decide +kernel
theorem d_W_add_15 : decode b_W_add 15 = .ok (.imul, 1) := by decide +kernel
theorem d_W_add_16 : decode b_W_add 16 = .ok (.iastore, 1) := by decide +kernel
theorem d_W_add_17 : decode b_W_add 17 = .ok (.aload_n 0, 1) := by decide +kernel
theorem d_W_add_18 : decode b_W_add 18 = .ok (.getfield 9, 3) := by decide +kernel
theorem d_W_add_21 : decode b_W_add 21 = .ok (.aload_n 0, 1) := by decide +kernel
theorem d_W_add_22 : decode b_W_add 22 = .ok (.getfield 18, 3) := by decide +kernel
theorem d_W_add_25 : decode b_W_add 25 = .ok (.iconst 2, 1) := by decide +kernel
theorem d_W_add_26 : decode b_W_add 26 = .ok (.imul, 1) := by decide +kernel
theorem d_W_add_27 : decode b_W_add 27 = .ok (.iconst 1, 1) := by decide +kernel
theorem d_W_add_28 : decode b_W_add 28 = .ok (.iadd, 1) := by decide +kernel
theorem d_W_add_29 : decode b_W_add 29 = .ok (.iload_n 2, 1) := by decide +kernel
theorem d_W_add_30 : decode b_W_add 30 = .ok (.bipush 8, 2) := by decide +kernel
theorem d_W_add_32 : decode b_W_add 32 = .ok (.imul, 1) := by decide +kernel
theorem d_W_add_33 : decode b_W_add 33 = .ok (.iastore, 1) := by decide +kernel
theorem d_W_add_34 : decode b_W_add 34 = .ok (.aload_n 0, 1) := by decide +kernel
theorem d_W_add_35 : decode b_W_add 35 = .ok (.getfield 15, 3) := by decide +kernel
theorem d_W_add_38 : decode b_W_add 38 = .ok (.aload_n 0, 1) := by decide +kernel
theorem d_W_add_39 : decode b_W_add 39 = .ok (.getfield 18, 3) := by decide +kernel
theorem d_W_add_42 : decode b_W_add 42 = .ok (.iconst 2, 1) := by decide +kernel
theorem d_W_add_43 : decode b_W_add 43 = .ok (.imul, 1) := by decide +kernel
theorem d_W_add_44 : decode b_W_add 44 = .ok (.iconst 0, 1) := by decide +kernel
theorem d_W_add_45 : decode b_W_add 45 = .ok (.iadd, 1) := by decide +kernel
theorem d_W_add_46 : decode b_W_add 46 = .ok (.iload_n 3, 1) := by decide +kernel
theorem d_W_add_47 : decode b_W_add 47 = .ok (.bipush 8, 2) := by decide +kernel
theorem d_W_add_49 : decode b_W_add 49 = .ok (.imul, 1) := by decide +kernel
theorem d_W_add_50 : decode b_W_add 50 = .ok (.iastore, 1) := by decide +kernel
theorem d_W_add_51 : decode b_W_add 51 = .ok (.aload_n 0, 1) := by decide +kernel
theorem d_W_add_52 : decode b_W_add 52 = .ok (.getfield 15, 3) := by decide +kernel
theorem d_W_add_55 : decode b_W_add 55 = .ok (.aload_n 0, 1) := by decide +kernel
theorem d_W_add_56 : decode b_W_add 56 = .ok (.getfield 18, 3) := by decide +kernel
theorem d_W_add_59 : decode b_W_add 59 = .ok (.iconst 2, 1) := by decide +kernel
theorem d_W_add_60 : decode b_W_add 60 = .ok (.imul, 1) := by decide +kernel
theorem d_W_add_61 : decode b_W_add 61 = .ok (.iconst 1, 1) := by decide +kernel
theorem d_W_add_62 : decode b_W_add 62 = .ok (.iadd, 1) := by decide +kernel
theorem d_W_add_63 : decode b_W_add 63 = .ok (.iload 4, 2) := by decide +kernel
theorem d_W_add_65 : decode b_W_add 65 = .ok (.bipush 8, 2) := by decide +kernel
theorem d_W_add_67 : decode b_W_add 67 = .ok (.imul, 1) := by decide +kernel
theorem d_W_add_68 : decode b_W_add 68 = .ok (.iastore, 1) := by decide +kernel
theorem d_W_add_69 : decode b_W_add 69 = .ok (.aload_n 0, 1) := by decide +kernel
theorem d_W_add_70 : decode b_W_add 70 = .ok (.dup, 1) := by decide +kernel
theorem d_W_add_71 : decode b_W_add 71 = .ok (.getfield 18, 3) := by decide +kernel
theorem d_W_add_74 : decode b_W_add 74 = .ok (.iconst 1, 1) := by decide +kernel
theorem d_W_add_75 : decode b_W_add 75 = .ok (.iadd, 1) := by decide +kernel
theorem d_W_add_76 : decode b_W_add 76 = .ok (.putfield 18, 3) := by decide +kernel
theorem d_W_add_79 : decode b_W_add 79 = .ok (.aload_n 0, 1) := by decide +kernel
theorem d_W_add_80 : decode b_W_add 80 = .ok (.getfield 18, 3) := by decide +kernel
theorem d_W_add_83 : decode b_W_add 83 = .ok (.iconst 1, 1) := by decide +kernel
theorem d_W_add_84 : decode b_W_add 84 = .ok (.isub, 1) := by decide +kernel
theorem d_W_add_85 : decode b_W_add 85 = .ok (.ireturn, 1) := by decide +kernel
def f_W_add (g : Sg) (a1 : Int32) (a2 : Int32) (a3 : Int32) (a4 : Int32) : Option (Int32 × Sg) := (qs_in (((g 20 0) * 2) + 0) 12 (qs_st (qs_a g 9 (((g 20 0) * 2) + 0).toNatClampNeg (a1 * 8)) fun u2 => (qs_in (((u2 20 0) * 2) + 1) 12 (qs_st (qs_a u2 9 (((u2 20 0) * 2) + 1).toNatClampNeg (a2 * 8)) fun u4 => (qs_in (((u4 20 0) * 2) + 0) 12 (qs_st (qs_a u4 10 (((u4 20 0) * 2) + 0).toNatClampNeg (a3 * 8)) fun u6 => (qs_in (((u6 20 0) * 2) + 1) 12 (qs_st (qs_a u6 10 (((u6 20 0) * 2) + 1).toNatClampNeg (a4 * 8)) fun u8 => (qs_st (qs_i u8 20 ((u8 20 0) + 1)) fun u9 => (some ((u9 20 0) - 1, u9)))))))))))
set_option maxHeartbeats 4000000 in
set_option maxRecDepth 100000 in
theorem c_W_add (l : Launch) (dC : Nat → ClassId) (dI : Nat → Nat → Nat) (h : Nat → Nat) (c : Nat → ClassId) (sz : Nat) (g : Sg) (a1 : Int32) (a2 : Int32) (a3 : Int32) (a4 : Int32) (r0 : Int32) (u0 : Sg) (hF : f_W_add g a1 a2 a3 a4 = some (r0, u0)) : Met l y_W_add (qs_ws y_W_add b_W_add 5 (some .int)) ({ frames := 0, cells := 0, slots := 0, locals := 0 } : Room) (va_Pc ([.ref (h 2), .int a1, .int a2, .int a3, .int a4] : List Value) (fun U => U.heap.size = sz ∧ va_P (dC, dI) vwCl (qs_W h c g) U.heap ∧ va_K (dC, dI) vwCl (qs_T c) U ∧ va_D (fun _ => True) (qs_W h c g) ∧ qs_N U)) (va_Qi (fun (r : Int32) (u : Sg) => r = r0 ∧ u = u0) (qs_at dC dI h c (va_A (qs_W h c g) sz)) (va_A (qs_W h c g) sz)) 0 0 (va_A (qs_W h c g) sz) := by
  refine Met.ofW (cc := b_W_add) (maxL := 5) (ret := (some .int)) (by decide +kernel) rfl ?_
  intro p e s m args below meth cd s₁ B hml hv
  obtain ⟨rfl, hsz, hP, hK, hD0, hNs⟩ := hv
  have hx := B.exec
  have hb := B.bytes
  have hr := B.returns
  have hts := atoms_spec (ws := (qs_ws y_W_add b_W_add 5 (some .int))) B.pre
  have hg : ∀ w ∈ qs_gt, w.before _ s = true := fun w h => hts w (List.mem_cons_of_mem _ h)
  have hown : s.vm.findClass R_W = some m.cls := findClass_of_methodNamed B.named
  have hlocks := B.notSynchronized
  subst hsz
  have hD := hD0.self (sz := s.heap.size)
  generalize hAe : va_A (qs_W h c g) s.heap.size = A at hD ⊢
  have hA : ∀ q : Nat, s.heap.size ≤ q → A q := fun q h => by rw [← hAe]; exact Or.inr h
  have hS : va_S A s.heap s.heap [] := va_S.rf
  have hl := lv_entry ([.ref (h 2), .int a1, .int a2, .int a3, .int a4] : List Value) (n := 5) (Nat.le_of_ble_eq_true rfl)
  rw [lg_entry_eq]
  generalize (lg_sl ([.ref (h 2), .int a1, .int a2, .int a3, .int a4] : List Value) ++ List.replicate (5 - (lg_sl ([.ref (h 2), .int a1, .int a2, .int a3, .int a4] : List Value)).length) Slot.unset).toArray = ls at hl ⊢
  have hl : lv_has ls 5 [(0, .ref (h 2)), (1, .int (a1)), (2, .int (a2)), (3, .int (a3)), (4, .int (a4))] := hl
  unfold f_W_add at hF
  obtain ⟨H, hHe⟩ : ∃ H, H = s.heap := ⟨_, rfl⟩
  obtain ⟨locs, hLe⟩ : ∃ L : List Loc, L = [] := ⟨_, rfl⟩
  rw [← hHe] at hP ⊢
  rw [← hLe]
  have hS : va_S A s.heap H locs := by rw [hHe, hLe]; exact hS
  refine lv_aload_n hx hb d_W_add_0 rfl (lv_at hl 0 rfl) ?_
  refine va_get (D := (dC, dI)) (ci := 1) (v := .ref (h 9)) (C := R_W) (T := T_W) (N := 3) hx hb hg in_W hown hK hP 2 rfl rfl 0 (by decide) (hg _ t_45) (fun _ h9 => h9) rfl d_W_add_1 ?_
  refine lv_aload_n hx hb d_W_add_4 rfl (lv_at hl 0 rfl) ?_
  refine va_get (D := (dC, dI)) (ci := 1) (v := .int (g 20 0)) (C := R_W) (T := T_W) (N := 3) hx hb hg in_W hown hK hP 2 rfl rfl 2 (by decide) (hg _ t_47) (fun _ h9 => h9) rfl d_W_add_5 ?_
  refine lv_iconst (v := 2) hx hb d_W_add_8 (by decide) ?_
  refine lv_imul hx hb d_W_add_9 ?_
  refine lv_iconst (v := 0) hx hb d_W_add_10 (by decide) ?_
  refine lv_iadd hx hb d_W_add_11 ?_
  refine lv_iload_n hx hb d_W_add_12 rfl (lv_at hl 1 rfl) ?_
  refine lv_bipush (v := 8) hx hb d_W_add_13 (by decide) ?_
  refine lv_imul hx hb d_W_add_15 ?_
  obtain ⟨c1, hF⟩ := qs_in_some hF
  refine va_iast hx hb hK hP hD hS 9 2 rfl rfl c1 d_W_add_16 (fun H locs hP hD hS => ?_)
  obtain ⟨u2, hu2, hF⟩ := qs_st_some hF
  have hP : va_P (dC, dI) vwCl (qs_W h c u2) H := by rw [hu2]; exact hP
  have hD : va_D A (qs_W h c u2) := by rw [hu2]; exact hD
  clear hu2
  refine lv_aload_n hx hb d_W_add_17 rfl (lv_at hl 0 rfl) ?_
  refine va_get (D := (dC, dI)) (ci := 1) (v := .ref (h 9)) (C := R_W) (T := T_W) (N := 3) hx hb hg in_W hown hK hP 2 rfl rfl 0 (by decide) (hg _ t_45) (fun _ h9 => h9) rfl d_W_add_18 ?_
  refine lv_aload_n hx hb d_W_add_21 rfl (lv_at hl 0 rfl) ?_
  refine va_get (D := (dC, dI)) (ci := 1) (v := .int (u2 20 0)) (C := R_W) (T := T_W) (N := 3) hx hb hg in_W hown hK hP 2 rfl rfl 2 (by decide) (hg _ t_47) (fun _ h9 => h9) rfl d_W_add_22 ?_
  refine lv_iconst (v := 2) hx hb d_W_add_25 (by decide) ?_
  refine lv_imul hx hb d_W_add_26 ?_
  refine lv_iconst (v := 1) hx hb d_W_add_27 (by decide) ?_
  refine lv_iadd hx hb d_W_add_28 ?_
  refine lv_iload_n hx hb d_W_add_29 rfl (lv_at hl 2 rfl) ?_
  refine lv_bipush (v := 8) hx hb d_W_add_30 (by decide) ?_
  refine lv_imul hx hb d_W_add_32 ?_
  obtain ⟨c3, hF⟩ := qs_in_some hF
  refine va_iast hx hb hK hP hD hS 9 2 rfl rfl c3 d_W_add_33 (fun H locs hP hD hS => ?_)
  obtain ⟨u4, hu4, hF⟩ := qs_st_some hF
  have hP : va_P (dC, dI) vwCl (qs_W h c u4) H := by rw [hu4]; exact hP
  have hD : va_D A (qs_W h c u4) := by rw [hu4]; exact hD
  clear hu4
  refine lv_aload_n hx hb d_W_add_34 rfl (lv_at hl 0 rfl) ?_
  refine va_get (D := (dC, dI)) (ci := 1) (v := .ref (h 10)) (C := R_W) (T := T_W) (N := 3) hx hb hg in_W hown hK hP 2 rfl rfl 1 (by decide) (hg _ t_46) (fun _ h9 => h9) rfl d_W_add_35 ?_
  refine lv_aload_n hx hb d_W_add_38 rfl (lv_at hl 0 rfl) ?_
  refine va_get (D := (dC, dI)) (ci := 1) (v := .int (u4 20 0)) (C := R_W) (T := T_W) (N := 3) hx hb hg in_W hown hK hP 2 rfl rfl 2 (by decide) (hg _ t_47) (fun _ h9 => h9) rfl d_W_add_39 ?_
  refine lv_iconst (v := 2) hx hb d_W_add_42 (by decide) ?_
  refine lv_imul hx hb d_W_add_43 ?_
  refine lv_iconst (v := 0) hx hb d_W_add_44 (by decide) ?_
  refine lv_iadd hx hb d_W_add_45 ?_
  refine lv_iload_n hx hb d_W_add_46 rfl (lv_at hl 3 rfl) ?_
  refine lv_bipush (v := 8) hx hb d_W_add_47 (by decide) ?_
  refine lv_imul hx hb d_W_add_49 ?_
  obtain ⟨c5, hF⟩ := qs_in_some hF
  refine va_iast hx hb hK hP hD hS 10 3 rfl rfl c5 d_W_add_50 (fun H locs hP hD hS => ?_)
  obtain ⟨u6, hu6, hF⟩ := qs_st_some hF
  have hP : va_P (dC, dI) vwCl (qs_W h c u6) H := by rw [hu6]; exact hP
  have hD : va_D A (qs_W h c u6) := by rw [hu6]; exact hD
  clear hu6
  refine lv_aload_n hx hb d_W_add_51 rfl (lv_at hl 0 rfl) ?_
  refine va_get (D := (dC, dI)) (ci := 1) (v := .ref (h 10)) (C := R_W) (T := T_W) (N := 3) hx hb hg in_W hown hK hP 2 rfl rfl 1 (by decide) (hg _ t_46) (fun _ h9 => h9) rfl d_W_add_52 ?_
  refine lv_aload_n hx hb d_W_add_55 rfl (lv_at hl 0 rfl) ?_
  refine va_get (D := (dC, dI)) (ci := 1) (v := .int (u6 20 0)) (C := R_W) (T := T_W) (N := 3) hx hb hg in_W hown hK hP 2 rfl rfl 2 (by decide) (hg _ t_47) (fun _ h9 => h9) rfl d_W_add_56 ?_
  refine lv_iconst (v := 2) hx hb d_W_add_59 (by decide) ?_
  refine lv_imul hx hb d_W_add_60 ?_
  refine lv_iconst (v := 1) hx hb d_W_add_61 (by decide) ?_
  refine lv_iadd hx hb d_W_add_62 ?_
  refine lv_iload hx hb d_W_add_63 (lv_at hl 4 rfl) ?_
  refine lv_bipush (v := 8) hx hb d_W_add_65 (by decide) ?_
  refine lv_imul hx hb d_W_add_67 ?_
  obtain ⟨c7, hF⟩ := qs_in_some hF
  refine va_iast hx hb hK hP hD hS 10 3 rfl rfl c7 d_W_add_68 (fun H locs hP hD hS => ?_)
  obtain ⟨u8, hu8, hF⟩ := qs_st_some hF
  have hP : va_P (dC, dI) vwCl (qs_W h c u8) H := by rw [hu8]; exact hP
  have hD : va_D A (qs_W h c u8) := by rw [hu8]; exact hD
  clear hu8
  refine lv_aload_n hx hb d_W_add_69 rfl (lv_at hl 0 rfl) ?_
  refine lv_dup hx hb d_W_add_70 rfl ?_
  refine va_get (D := (dC, dI)) (ci := 1) (v := .int (u8 20 0)) (C := R_W) (T := T_W) (N := 3) hx hb hg in_W hown hK hP 2 rfl rfl 2 (by decide) (hg _ t_47) (fun _ h9 => h9) rfl d_W_add_71 ?_
  refine lv_iconst (v := 1) hx hb d_W_add_74 (by decide) ?_
  refine lv_iadd hx hb d_W_add_75 ?_
  refine va_put (D := (dC, dI)) (ci := 1) (v := .int ((u8 20 0) + 1)) (ty := .int) (C := R_W) (T := T_W) (N := 3) hx hb hg in_W ty_W ty_W_ok nm_W hown hK hP hD hS 2 rfl rfl 2 (by decide) (hg _ t_47) (fun _ h9 => h9) rfl (by decide +kernel) rfl rfl (Nat.le_of_ble_eq_true rfl) d_W_add_76 (fun H locs hP hD hS => ?_)
  obtain ⟨u9, hu9, hF⟩ := qs_st_some hF
  have hP : va_P (dC, dI) vwCl (qs_W h c u9) H := by rw [hu9]; exact hP
  have hD : va_D A (qs_W h c u9) := by rw [hu9]; exact hD
  clear hu9
  refine lv_aload_n hx hb d_W_add_79 rfl (lv_at hl 0 rfl) ?_
  refine va_get (D := (dC, dI)) (ci := 1) (v := .int (u9 20 0)) (C := R_W) (T := T_W) (N := 3) hx hb hg in_W hown hK hP 2 rfl rfl 2 (by decide) (hg _ t_47) (fun _ h9 => h9) rfl d_W_add_80 ?_
  refine lv_iconst (v := 1) hx hb d_W_add_83 (by decide) ?_
  refine lv_isub hx hb d_W_add_84 ?_
  obtain ⟨h8, h9⟩ := qs_ret hF
  exact W.iret (v := (u9 20 0) - 1) hx hb hr (fun t ht hW => ⟨⟨((u9 20 0) - 1), u9, rfl, ⟨h8, h9⟩, by rw [ht]; exact hP, va_K.moved hW.alike hK, hD⟩, hS.F ht⟩) hS.2.2 d_W_add_85

theorem d_W_low_0 : decode b_W_low 0 = .ok (.aload_n 0, 1) := by decide +kernel
theorem d_W_low_1 : decode b_W_low 1 = .ok (.getfield 9, 3) := by decide +kernel
theorem d_W_low_4 : decode b_W_low 4 = .ok (.iload_n 1, 1) := by decide +kernel
theorem d_W_low_5 : decode b_W_low 5 = .ok (.iconst 2, 1) := by decide +kernel
theorem d_W_low_6 : decode b_W_low 6 = .ok (.imul, 1) := by decide +kernel
theorem d_W_low_7 : decode b_W_low 7 = .ok (.iload_n 2, 1) := by decide +kernel
theorem d_W_low_8 : decode b_W_low 8 = .ok (.iadd, 1) := by decide +kernel
theorem d_W_low_9 : decode b_W_low 9 = .ok (.iaload, 1) := by decide +kernel
theorem d_W_low_10 : decode b_W_low 10 = .ok (.ireturn, 1) := by decide +kernel
def f_W_low (g : Sg) (a1 : Int32) (a2 : Int32) : Option (Int32 × Sg) := (qs_in ((a1 * 2) + a2) 12 (some (g 9 ((a1 * 2) + a2).toNatClampNeg, g)))
set_option maxHeartbeats 4000000 in
set_option maxRecDepth 100000 in
theorem c_W_low (l : Launch) (dC : Nat → ClassId) (dI : Nat → Nat → Nat) (h : Nat → Nat) (c : Nat → ClassId) (sz : Nat) (g : Sg) (a1 : Int32) (a2 : Int32) (r0 : Int32) (u0 : Sg) (hF : f_W_low g a1 a2 = some (r0, u0)) : Met l y_W_low (qs_ws y_W_low b_W_low 3 (some .int)) ({ frames := 0, cells := 0, slots := 0, locals := 0 } : Room) (va_Pc ([.ref (h 2), .int a1, .int a2] : List Value) (fun U => U.heap.size = sz ∧ va_P (dC, dI) vwCl (qs_W h c g) U.heap ∧ va_K (dC, dI) vwCl (qs_T c) U ∧ va_D (fun _ => True) (qs_W h c g) ∧ qs_N U)) (va_Qi (fun (r : Int32) (u : Sg) => r = r0 ∧ u = u0) (qs_at dC dI h c (va_A (qs_W h c g) sz)) (va_A (qs_W h c g) sz)) 0 0 (va_A (qs_W h c g) sz) := by
  refine Met.ofW (cc := b_W_low) (maxL := 3) (ret := (some .int)) (by decide +kernel) rfl ?_
  intro p e s m args below meth cd s₁ B hml hv
  obtain ⟨rfl, hsz, hP, hK, hD0, hNs⟩ := hv
  have hx := B.exec
  have hb := B.bytes
  have hr := B.returns
  have hts := atoms_spec (ws := (qs_ws y_W_low b_W_low 3 (some .int))) B.pre
  have hg : ∀ w ∈ qs_gt, w.before _ s = true := fun w h => hts w (List.mem_cons_of_mem _ h)
  have hown : s.vm.findClass R_W = some m.cls := findClass_of_methodNamed B.named
  have hlocks := B.notSynchronized
  subst hsz
  have hD := hD0.self (sz := s.heap.size)
  generalize hAe : va_A (qs_W h c g) s.heap.size = A at hD ⊢
  have hA : ∀ q : Nat, s.heap.size ≤ q → A q := fun q h => by rw [← hAe]; exact Or.inr h
  have hS : va_S A s.heap s.heap [] := va_S.rf
  have hl := lv_entry ([.ref (h 2), .int a1, .int a2] : List Value) (n := 3) (Nat.le_of_ble_eq_true rfl)
  rw [lg_entry_eq]
  generalize (lg_sl ([.ref (h 2), .int a1, .int a2] : List Value) ++ List.replicate (3 - (lg_sl ([.ref (h 2), .int a1, .int a2] : List Value)).length) Slot.unset).toArray = ls at hl ⊢
  have hl : lv_has ls 3 [(0, .ref (h 2)), (1, .int (a1)), (2, .int (a2))] := hl
  unfold f_W_low at hF
  obtain ⟨H, hHe⟩ : ∃ H, H = s.heap := ⟨_, rfl⟩
  obtain ⟨locs, hLe⟩ : ∃ L : List Loc, L = [] := ⟨_, rfl⟩
  rw [← hHe] at hP ⊢
  rw [← hLe]
  have hS : va_S A s.heap H locs := by rw [hHe, hLe]; exact hS
  refine lv_aload_n hx hb d_W_low_0 rfl (lv_at hl 0 rfl) ?_
  refine va_get (D := (dC, dI)) (ci := 1) (v := .ref (h 9)) (C := R_W) (T := T_W) (N := 3) hx hb hg in_W hown hK hP 2 rfl rfl 0 (by decide) (hg _ t_45) (fun _ h9 => h9) rfl d_W_low_1 ?_
  refine lv_iload_n hx hb d_W_low_4 rfl (lv_at hl 1 rfl) ?_
  refine lv_iconst (v := 2) hx hb d_W_low_5 (by decide) ?_
  refine lv_imul hx hb d_W_low_6 ?_
  refine lv_iload_n hx hb d_W_low_7 rfl (lv_at hl 2 rfl) ?_
  refine lv_iadd hx hb d_W_low_8 ?_
  obtain ⟨c1, hF⟩ := qs_in_some hF
  refine va_iald hx hb hK hP 9 2 rfl rfl c1 d_W_low_9 ?_
  obtain ⟨h8, h9⟩ := qs_ret hF
  exact W.iret (v := g 9 ((a1 * 2) + a2).toNatClampNeg) hx hb hr (fun t ht hW => ⟨⟨(g 9 ((a1 * 2) + a2).toNatClampNeg), g, rfl, ⟨h8, h9⟩, by rw [ht]; exact hP, va_K.moved hW.alike hK, hD⟩, hS.F ht⟩) hS.2.2 d_W_low_10

theorem d_W_high_0 : decode b_W_high 0 = .ok (.aload_n 0, 1) := by decide +kernel
theorem d_W_high_1 : decode b_W_high 1 = .ok (.getfield 15, 3) := by decide +kernel
theorem d_W_high_4 : decode b_W_high 4 = .ok (.iload_n 1, 1) := by decide +kernel
theorem d_W_high_5 : decode b_W_high 5 = .ok (.iconst 2, 1) := by decide +kernel
theorem d_W_high_6 : decode b_W_high 6 = .ok (.imul, 1) := by decide +kernel
theorem d_W_high_7 : decode b_W_high 7 = .ok (.iload_n 2, 1) := by decide +kernel
theorem d_W_high_8 : decode b_W_high 8 = .ok (.iadd, 1) := by decide +kernel
theorem d_W_high_9 : decode b_W_high 9 = .ok (.iaload, 1) := by decide +kernel
theorem d_W_high_10 : decode b_W_high 10 = .ok (.ireturn, 1) := by decide +kernel
def f_W_high (g : Sg) (a1 : Int32) (a2 : Int32) : Option (Int32 × Sg) := (qs_in ((a1 * 2) + a2) 12 (some (g 10 ((a1 * 2) + a2).toNatClampNeg, g)))
set_option maxHeartbeats 4000000 in
set_option maxRecDepth 100000 in
theorem c_W_high (l : Launch) (dC : Nat → ClassId) (dI : Nat → Nat → Nat) (h : Nat → Nat) (c : Nat → ClassId) (sz : Nat) (g : Sg) (a1 : Int32) (a2 : Int32) (r0 : Int32) (u0 : Sg) (hF : f_W_high g a1 a2 = some (r0, u0)) : Met l y_W_high (qs_ws y_W_high b_W_high 3 (some .int)) ({ frames := 0, cells := 0, slots := 0, locals := 0 } : Room) (va_Pc ([.ref (h 2), .int a1, .int a2] : List Value) (fun U => U.heap.size = sz ∧ va_P (dC, dI) vwCl (qs_W h c g) U.heap ∧ va_K (dC, dI) vwCl (qs_T c) U ∧ va_D (fun _ => True) (qs_W h c g) ∧ qs_N U)) (va_Qi (fun (r : Int32) (u : Sg) => r = r0 ∧ u = u0) (qs_at dC dI h c (va_A (qs_W h c g) sz)) (va_A (qs_W h c g) sz)) 0 0 (va_A (qs_W h c g) sz) := by
  refine Met.ofW (cc := b_W_high) (maxL := 3) (ret := (some .int)) (by decide +kernel) rfl ?_
  intro p e s m args below meth cd s₁ B hml hv
  obtain ⟨rfl, hsz, hP, hK, hD0, hNs⟩ := hv
  have hx := B.exec
  have hb := B.bytes
  have hr := B.returns
  have hts := atoms_spec (ws := (qs_ws y_W_high b_W_high 3 (some .int))) B.pre
  have hg : ∀ w ∈ qs_gt, w.before _ s = true := fun w h => hts w (List.mem_cons_of_mem _ h)
  have hown : s.vm.findClass R_W = some m.cls := findClass_of_methodNamed B.named
  have hlocks := B.notSynchronized
  subst hsz
  have hD := hD0.self (sz := s.heap.size)
  generalize hAe : va_A (qs_W h c g) s.heap.size = A at hD ⊢
  have hA : ∀ q : Nat, s.heap.size ≤ q → A q := fun q h => by rw [← hAe]; exact Or.inr h
  have hS : va_S A s.heap s.heap [] := va_S.rf
  have hl := lv_entry ([.ref (h 2), .int a1, .int a2] : List Value) (n := 3) (Nat.le_of_ble_eq_true rfl)
  rw [lg_entry_eq]
  generalize (lg_sl ([.ref (h 2), .int a1, .int a2] : List Value) ++ List.replicate (3 - (lg_sl ([.ref (h 2), .int a1, .int a2] : List Value)).length) Slot.unset).toArray = ls at hl ⊢
  have hl : lv_has ls 3 [(0, .ref (h 2)), (1, .int (a1)), (2, .int (a2))] := hl
  unfold f_W_high at hF
  obtain ⟨H, hHe⟩ : ∃ H, H = s.heap := ⟨_, rfl⟩
  obtain ⟨locs, hLe⟩ : ∃ L : List Loc, L = [] := ⟨_, rfl⟩
  rw [← hHe] at hP ⊢
  rw [← hLe]
  have hS : va_S A s.heap H locs := by rw [hHe, hLe]; exact hS
  refine lv_aload_n hx hb d_W_high_0 rfl (lv_at hl 0 rfl) ?_
  refine va_get (D := (dC, dI)) (ci := 1) (v := .ref (h 10)) (C := R_W) (T := T_W) (N := 3) hx hb hg in_W hown hK hP 2 rfl rfl 1 (by decide) (hg _ t_46) (fun _ h9 => h9) rfl d_W_high_1 ?_
  refine lv_iload_n hx hb d_W_high_4 rfl (lv_at hl 1 rfl) ?_
  refine lv_iconst (v := 2) hx hb d_W_high_5 (by decide) ?_
  refine lv_imul hx hb d_W_high_6 ?_
  refine lv_iload_n hx hb d_W_high_7 rfl (lv_at hl 2 rfl) ?_
  refine lv_iadd hx hb d_W_high_8 ?_
  obtain ⟨c1, hF⟩ := qs_in_some hF
  refine va_iald hx hb hK hP 10 3 rfl rfl c1 d_W_high_9 ?_
  obtain ⟨h8, h9⟩ := qs_ret hF
  exact W.iret (v := g 10 ((a1 * 2) + a2).toNatClampNeg) hx hb hr (fun t ht hW => ⟨⟨(g 10 ((a1 * 2) + a2).toNatClampNeg), g, rfl, ⟨h8, h9⟩, by rw [ht]; exact hP, va_K.moved hW.alike hK, hD⟩, hS.F ht⟩) hS.2.2 d_W_high_10

theorem d_P_length_0 : decode b_P_length 0 = .ok (.aload_n 0, 1) := by decide +kernel
theorem d_P_length_1 : decode b_P_length 1 = .ok (.getfield 15, 3) := by decide +kernel
theorem d_P_length_4 : decode b_P_length 4 = .ok (.iload_n 1, 1) := by decide +kernel
theorem d_P_length_5 : decode b_P_length 5 = .ok (.iaload, 1) := by decide +kernel
theorem d_P_length_6 : decode b_P_length 6 = .ok (.ireturn, 1) := by decide +kernel
def f_P_length (g : Sg) (a1 : Int32) : Option (Int32 × Sg) := (qs_in (a1) 6 (some (g 12 a1.toNatClampNeg, g)))
set_option maxHeartbeats 4000000 in
set_option maxRecDepth 100000 in
theorem c_P_length (l : Launch) (dC : Nat → ClassId) (dI : Nat → Nat → Nat) (h : Nat → Nat) (c : Nat → ClassId) (sz : Nat) (g : Sg) (a1 : Int32) (r0 : Int32) (u0 : Sg) (hF : f_P_length g a1 = some (r0, u0)) : Met l y_P_length (qs_ws y_P_length b_P_length 2 (some .int)) ({ frames := 0, cells := 0, slots := 0, locals := 0 } : Room) (va_Pc ([.ref (h 3), .int a1] : List Value) (fun U => U.heap.size = sz ∧ va_P (dC, dI) vwCl (qs_W h c g) U.heap ∧ va_K (dC, dI) vwCl (qs_T c) U ∧ va_D (fun _ => True) (qs_W h c g) ∧ qs_N U)) (va_Qi (fun (r : Int32) (u : Sg) => r = r0 ∧ u = u0) (qs_at dC dI h c (va_A (qs_W h c g) sz)) (va_A (qs_W h c g) sz)) 0 0 (va_A (qs_W h c g) sz) := by
  refine Met.ofW (cc := b_P_length) (maxL := 2) (ret := (some .int)) (by decide +kernel) rfl ?_
  intro p e s m args below meth cd s₁ B hml hv
  obtain ⟨rfl, hsz, hP, hK, hD0, hNs⟩ := hv
  have hx := B.exec
  have hb := B.bytes
  have hr := B.returns
  have hts := atoms_spec (ws := (qs_ws y_P_length b_P_length 2 (some .int))) B.pre
  have hg : ∀ w ∈ qs_gt, w.before _ s = true := fun w h => hts w (List.mem_cons_of_mem _ h)
  have hown : s.vm.findClass R_P = some m.cls := findClass_of_methodNamed B.named
  have hlocks := B.notSynchronized
  subst hsz
  have hD := hD0.self (sz := s.heap.size)
  generalize hAe : va_A (qs_W h c g) s.heap.size = A at hD ⊢
  have hA : ∀ q : Nat, s.heap.size ≤ q → A q := fun q h => by rw [← hAe]; exact Or.inr h
  have hS : va_S A s.heap s.heap [] := va_S.rf
  have hl := lv_entry ([.ref (h 3), .int a1] : List Value) (n := 2) (Nat.le_of_ble_eq_true rfl)
  rw [lg_entry_eq]
  generalize (lg_sl ([.ref (h 3), .int a1] : List Value) ++ List.replicate (2 - (lg_sl ([.ref (h 3), .int a1] : List Value)).length) Slot.unset).toArray = ls at hl ⊢
  have hl : lv_has ls 2 [(0, .ref (h 3)), (1, .int (a1))] := hl
  unfold f_P_length at hF
  obtain ⟨H, hHe⟩ : ∃ H, H = s.heap := ⟨_, rfl⟩
  obtain ⟨locs, hLe⟩ : ∃ L : List Loc, L = [] := ⟨_, rfl⟩
  rw [← hHe] at hP ⊢
  rw [← hLe]
  have hS : va_S A s.heap H locs := by rw [hHe, hLe]; exact hS
  refine lv_aload_n hx hb d_P_length_0 rfl (lv_at hl 0 rfl) ?_
  refine va_get (D := (dC, dI)) (ci := 2) (v := .ref (h 12)) (C := R_P) (T := T_P) (N := 2) hx hb hg in_P hown hK hP 3 rfl rfl 1 (by decide) (hg _ t_65) (fun _ h9 => h9) rfl d_P_length_1 ?_
  refine lv_iload_n hx hb d_P_length_4 rfl (lv_at hl 1 rfl) ?_
  obtain ⟨c1, hF⟩ := qs_in_some hF
  refine va_iald hx hb hK hP 12 5 rfl rfl c1 d_P_length_5 ?_
  obtain ⟨h8, h9⟩ := qs_ret hF
  exact W.iret (v := g 12 a1.toNatClampNeg) hx hb hr (fun t ht hW => ⟨⟨(g 12 a1.toNatClampNeg), g, rfl, ⟨h8, h9⟩, by rw [ht]; exact hP, va_K.moved hW.alike hK, hD⟩, hS.F ht⟩) hS.2.2 d_P_length_6

theorem d_P_firstPart_0 : decode b_P_firstPart 0 = .ok (.iload_n 1, 1) := by decide +kernel
theorem d_P_firstPart_1 : decode b_P_firstPart 1 = .ok (.bipush 14, 2) := by decide +kernel
theorem d_P_firstPart_3 : decode b_P_firstPart 3 = .ok (.imul, 1) := by decide +kernel
theorem d_P_firstPart_4 : decode b_P_firstPart 4 = .ok (.iload_n 2, 1) := by decide +kernel
theorem d_P_firstPart_5 : decode b_P_firstPart 5 = .ok (.iadd, 1) := by decide +kernel
theorem d_P_firstPart_6 : decode b_P_firstPart 6 = .ok (.iconst 4, 1) := by decide +kernel
theorem d_P_firstPart_7 : decode b_P_firstPart 7 = .ok (.imul, 1) := by decide +kernel
theorem d_P_firstPart_8 : decode b_P_firstPart 8 = .ok (.ireturn, 1) := by decide +kernel
def f_P_firstPart (g : Sg) (a1 : Int32) (a2 : Int32) : Option (Int32 × Sg) := (some (((a1 * 14) + a2) * 4, g))
set_option maxHeartbeats 4000000 in
set_option maxRecDepth 100000 in
theorem c_P_firstPart (l : Launch) (dC : Nat → ClassId) (dI : Nat → Nat → Nat) (h : Nat → Nat) (c : Nat → ClassId) (sz : Nat) (g : Sg) (a1 : Int32) (a2 : Int32) (r0 : Int32) (u0 : Sg) (hF : f_P_firstPart g a1 a2 = some (r0, u0)) : Met l y_P_firstPart (qs_ws y_P_firstPart b_P_firstPart 3 (some .int)) ({ frames := 0, cells := 0, slots := 0, locals := 0 } : Room) (va_Pc ([.ref (h 3), .int a1, .int a2] : List Value) (fun U => U.heap.size = sz ∧ va_P (dC, dI) vwCl (qs_W h c g) U.heap ∧ va_K (dC, dI) vwCl (qs_T c) U ∧ va_D (fun _ => True) (qs_W h c g) ∧ qs_N U)) (va_Qi (fun (r : Int32) (u : Sg) => r = r0 ∧ u = u0) (qs_at dC dI h c (va_A (qs_W h c g) sz)) (va_A (qs_W h c g) sz)) 0 0 (va_A (qs_W h c g) sz) := by
  refine Met.ofW (cc := b_P_firstPart) (maxL := 3) (ret := (some .int)) (by decide +kernel) rfl ?_
  intro p e s m args below meth cd s₁ B hml hv
  obtain ⟨rfl, hsz, hP, hK, hD0, hNs⟩ := hv
  have hx := B.exec
  have hb := B.bytes
  have hr := B.returns
  have hts := atoms_spec (ws := (qs_ws y_P_firstPart b_P_firstPart 3 (some .int))) B.pre
  have hg : ∀ w ∈ qs_gt, w.before _ s = true := fun w h => hts w (List.mem_cons_of_mem _ h)
  have hown : s.vm.findClass R_P = some m.cls := findClass_of_methodNamed B.named
  have hlocks := B.notSynchronized
  subst hsz
  have hD := hD0.self (sz := s.heap.size)
  generalize hAe : va_A (qs_W h c g) s.heap.size = A at hD ⊢
  have hA : ∀ q : Nat, s.heap.size ≤ q → A q := fun q h => by rw [← hAe]; exact Or.inr h
  have hS : va_S A s.heap s.heap [] := va_S.rf
  have hl := lv_entry ([.ref (h 3), .int a1, .int a2] : List Value) (n := 3) (Nat.le_of_ble_eq_true rfl)
  rw [lg_entry_eq]
  generalize (lg_sl ([.ref (h 3), .int a1, .int a2] : List Value) ++ List.replicate (3 - (lg_sl ([.ref (h 3), .int a1, .int a2] : List Value)).length) Slot.unset).toArray = ls at hl ⊢
  have hl : lv_has ls 3 [(0, .ref (h 3)), (1, .int (a1)), (2, .int (a2))] := hl
  unfold f_P_firstPart at hF
  obtain ⟨H, hHe⟩ : ∃ H, H = s.heap := ⟨_, rfl⟩
  obtain ⟨locs, hLe⟩ : ∃ L : List Loc, L = [] := ⟨_, rfl⟩
  rw [← hHe] at hP ⊢
  rw [← hLe]
  have hS : va_S A s.heap H locs := by rw [hHe, hLe]; exact hS
  refine lv_iload_n hx hb d_P_firstPart_0 rfl (lv_at hl 1 rfl) ?_
  refine lv_bipush (v := 14) hx hb d_P_firstPart_1 (by decide) ?_
  refine lv_imul hx hb d_P_firstPart_3 ?_
  refine lv_iload_n hx hb d_P_firstPart_4 rfl (lv_at hl 2 rfl) ?_
  refine lv_iadd hx hb d_P_firstPart_5 ?_
  refine lv_iconst (v := 4) hx hb d_P_firstPart_6 (by decide) ?_
  refine lv_imul hx hb d_P_firstPart_7 ?_
  obtain ⟨h8, h9⟩ := qs_ret hF
  exact W.iret (v := ((a1 * 14) + a2) * 4) hx hb hr (fun t ht hW => ⟨⟨(((a1 * 14) + a2) * 4), g, rfl, ⟨h8, h9⟩, by rw [ht]; exact hP, va_K.moved hW.alike hK, hD⟩, hS.F ht⟩) hS.2.2 d_P_firstPart_8

theorem d_P_add_0 : decode b_P_add 0 = .ok (.aload_n 0, 1) := by decide +kernel
theorem d_P_add_1 : decode b_P_add 1 = .ok (.iload_n 1, 1) := by decide +kernel
theorem d_P_add_2 : decode b_P_add 2 = .ok (.aload_n 0, 1) := by decide +kernel
theorem d_P_add_3 : decode b_P_add 3 = .ok (.getfield 15, 3) := by decide +kernel
theorem d_P_add_6 : decode b_P_add 6 = .ok (.iload_n 1, 1) := by decide +kernel
theorem d_P_add_7 : decode b_P_add 7 = .ok (.iaload, 1) := by decide +kernel
theorem d_P_add_8 : decode b_P_add 8 = .ok (.invokevirtual 22, 3) := by decide +kernel
theorem d_P_add_11 : decode b_P_add 11 = .ok (.istore 6, 2) := by decide +kernel
theorem d_P_add_13 : decode b_P_add 13 = .ok (.aload_n 0, 1) := by decide +kernel
theorem d_P_add_14 : decode b_P_add 14 = .ok (.getfield 11, 3) := by decide +kernel
theorem d_P_add_17 : decode b_P_add 17 = .ok (.iload 6, 2) := by decide +kernel
theorem d_P_add_19 : decode b_P_add 19 = .ok (.iload_n 2, 1) := by decide +kernel
theorem d_P_add_20 : decode b_P_add 20 = .ok (.iastore, 1) := by decide +kernel
theorem d_P_add_21 : decode b_P_add 21 = .ok (.aload_n 0, 1) := by decide +kernel
theorem d_P_add_22 : decode b_P_add 22 = .ok (.getfield 11, 3) := by decide +kernel
theorem d_P_add_25 : decode b_P_add 25 = .ok (.iload 6, 2) := by decide +kernel
theorem d_P_add_27 : decode b_P_add 27 = .ok (.iconst 1, 1) := by decide +kernel
theorem d_P_add_28 : decode b_P_add 28 = .ok (.iadd, 1) := by decide +kernel
theorem d_P_add_29 : decode b_P_add 29 = .ok (.iload_n 3, 1) := by decide +kernel
theorem d_P_add_30 : decode b_P_add 30 = .ok (.iastore, 1) := by decide +kernel
theorem d_P_add_31 : decode b_P_add 31 = .ok (.aload_n 0, 1) := by decide +kernel
theorem d_P_add_32 : decode b_P_add 32 = .ok (.getfield 11, 3) := by decide +kernel
theorem d_P_add_35 : decode b_P_add 35 = .ok (.iload 6, 2) := by decide +kernel
theorem d_P_add_37 : decode b_P_add 37 = .ok (.iconst 2, 1) := by decide +kernel
theorem d_P_add_38 : decode b_P_add 38 = .ok (.iadd, 1) := by decide +kernel
theorem d_P_add_39 : decode b_P_add 39 = .ok (.iload 4, 2) := by decide +kernel
theorem d_P_add_41 : decode b_P_add 41 = .ok (.iastore, 1) := by decide +kernel
theorem d_P_add_42 : decode b_P_add 42 = .ok (.aload_n 0, 1) := by decide +kernel
theorem d_P_add_43 : decode b_P_add 43 = .ok (.getfield 11, 3) := by decide +kernel
theorem d_P_add_46 : decode b_P_add 46 = .ok (.iload 6, 2) := by decide +kernel
theorem d_P_add_48 : decode b_P_add 48 = .ok (.iconst 3, 1) := by decide +kernel
theorem d_P_add_49 : decode b_P_add 49 = .ok (.iadd, 1) := by decide +kernel
theorem d_P_add_50 : decode b_P_add 50 = .ok (.iload 5, 2) := by decide +kernel
theorem d_P_add_52 : decode b_P_add 52 = .ok (.iastore, 1) := by decide +kernel
theorem d_P_add_53 : decode b_P_add 53 = .ok (.aload_n 0, 1) := by decide +kernel
theorem d_P_add_54 : decode b_P_add 54 = .ok (.getfield 15, 3) := by decide +kernel
theorem d_P_add_57 : decode b_P_add 57 = .ok (.iload_n 1, 1) := by decide +kernel
theorem d_P_add_58 : decode b_P_add 58 = .ok (.dup2, 1) := by decide +kernel
theorem d_P_add_59 : decode b_P_add 59 = .ok (.iaload, 1) := by decide +kernel
theorem d_P_add_60 : decode b_P_add 60 = .ok (.iconst 1, 1) := by decide +kernel
theorem d_P_add_61 : decode b_P_add 61 = .ok (.iadd, 1) := by decide +kernel
theorem d_P_add_62 : decode b_P_add 62 = .ok (.iastore, 1) := by decide +kernel
theorem d_P_add_63 : decode b_P_add 63 = .ok (.aload_n 0, 1) := by decide +kernel
theorem d_P_add_64 : decode b_P_add 64 = .ok (.getfield 15, 3) := by decide +kernel
theorem d_P_add_67 : decode b_P_add 67 = .ok (.iload_n 1, 1) := by decide +kernel
theorem d_P_add_68 : decode b_P_add 68 = .ok (.iaload, 1) := by decide +kernel
theorem d_P_add_69 : decode b_P_add 69 = .ok (.ireturn, 1) := by decide +kernel
def f_P_add (g : Sg) (a1 : Int32) (a2 : Int32) (a3 : Int32) (a4 : Int32) (a5 : Int32) : Option (Int32 × Sg) := (qs_in (a1) 6 (qs_bn (f_P_firstPart g (a1) (g 12 a1.toNatClampNeg)) fun r2 u3 => (qs_in (r2) 336 (qs_st (qs_a u3 11 r2.toNatClampNeg (a2)) fun u5 => (qs_in (r2 + 1) 336 (qs_st (qs_a u5 11 (r2 + 1).toNatClampNeg (a3)) fun u7 => (qs_in (r2 + 2) 336 (qs_st (qs_a u7 11 (r2 + 2).toNatClampNeg (a4)) fun u9 => (qs_in (r2 + 3) 336 (qs_st (qs_a u9 11 (r2 + 3).toNatClampNeg (a5)) fun u11 => (qs_in (a1) 6 (qs_in (a1) 6 (qs_st (qs_a u11 12 a1.toNatClampNeg ((u11 12 a1.toNatClampNeg) + 1)) fun u14 => (qs_in (a1) 6 (some (u14 12 a1.toNatClampNeg, u14))))))))))))))))
set_option maxHeartbeats 4000000 in
set_option maxRecDepth 100000 in
theorem c_P_add (l : Launch) (dC : Nat → ClassId) (dI : Nat → Nat → Nat) (h : Nat → Nat) (c : Nat → ClassId) (sz : Nat) (g : Sg) (a1 : Int32) (a2 : Int32) (a3 : Int32) (a4 : Int32) (a5 : Int32) (r0 : Int32) (u0 : Sg) (hF : f_P_add g a1 a2 a3 a4 a5 = some (r0, u0)) : Met l y_P_add (qs_ws y_P_add b_P_add 7 (some .int)) ({ frames := 1, cells := 0, slots := 0, locals := 22 } : Room) (va_Pc ([.ref (h 3), .int a1, .int a2, .int a3, .int a4, .int a5] : List Value) (fun U => U.heap.size = sz ∧ va_P (dC, dI) vwCl (qs_W h c g) U.heap ∧ va_K (dC, dI) vwCl (qs_T c) U ∧ va_D (fun _ => True) (qs_W h c g) ∧ qs_N U)) (va_Qi (fun (r : Int32) (u : Sg) => r = r0 ∧ u = u0) (qs_at dC dI h c (va_A (qs_W h c g) sz)) (va_A (qs_W h c g) sz)) 0 0 (va_A (qs_W h c g) sz) := by
  refine Met.ofW (cc := b_P_add) (maxL := 7) (ret := (some .int)) (by decide +kernel) rfl ?_
  intro p e s m args below meth cd s₁ B hml hv
  obtain ⟨rfl, hsz, hP, hK, hD0, hNs⟩ := hv
  have hx := B.exec
  have hb := B.bytes
  have hr := B.returns
  have hts := atoms_spec (ws := (qs_ws y_P_add b_P_add 7 (some .int))) B.pre
  have hg : ∀ w ∈ qs_gt, w.before _ s = true := fun w h => hts w (List.mem_cons_of_mem _ h)
  have hown : s.vm.findClass R_P = some m.cls := findClass_of_methodNamed B.named
  have hlocks := B.notSynchronized
  subst hsz
  have hD := hD0.self (sz := s.heap.size)
  generalize hAe : va_A (qs_W h c g) s.heap.size = A at hD ⊢
  have hA : ∀ q : Nat, s.heap.size ≤ q → A q := fun q h => by rw [← hAe]; exact Or.inr h
  have hS : va_S A s.heap s.heap [] := va_S.rf
  have hl := lv_entry ([.ref (h 3), .int a1, .int a2, .int a3, .int a4, .int a5] : List Value) (n := 7) (Nat.le_of_ble_eq_true rfl)
  rw [lg_entry_eq]
  generalize (lg_sl ([.ref (h 3), .int a1, .int a2, .int a3, .int a4, .int a5] : List Value) ++ List.replicate (7 - (lg_sl ([.ref (h 3), .int a1, .int a2, .int a3, .int a4, .int a5] : List Value)).length) Slot.unset).toArray = ls at hl ⊢
  have hl : lv_has ls 7 [(0, .ref (h 3)), (1, .int (a1)), (2, .int (a2)), (3, .int (a3)), (4, .int (a4)), (5, .int (a5))] := hl
  unfold f_P_add at hF
  obtain ⟨H, hHe⟩ : ∃ H, H = s.heap := ⟨_, rfl⟩
  obtain ⟨locs, hLe⟩ : ∃ L : List Loc, L = [] := ⟨_, rfl⟩
  rw [← hHe] at hP ⊢
  rw [← hLe]
  have hS : va_S A s.heap H locs := by rw [hHe, hLe]; exact hS
  refine lv_aload_n hx hb d_P_add_0 rfl (lv_at hl 0 rfl) ?_
  refine lv_iload_n hx hb d_P_add_1 rfl (lv_at hl 1 rfl) ?_
  refine lv_aload_n hx hb d_P_add_2 rfl (lv_at hl 0 rfl) ?_
  refine va_get (D := (dC, dI)) (ci := 2) (v := .ref (h 12)) (C := R_P) (T := T_P) (N := 2) hx hb hg in_P hown hK hP 3 rfl rfl 1 (by decide) (hg _ t_65) (fun _ h9 => h9) rfl d_P_add_3 ?_
  refine lv_iload_n hx hb d_P_add_6 rfl (lv_at hl 1 rfl) ?_
  obtain ⟨c1, hF⟩ := qs_in_some hF
  refine va_iald hx hb hK hP 12 5 rfl rfl c1 d_P_add_7 ?_
  obtain ⟨r2, u3, hX, hF⟩ := qs_bn_some hF
  refine qs_ci (Wd := qs_W h c) (isC := [0, 1, 2, 3, 4, 5, 6, 7, 8, 9, 10, 11, 12, 13, 14, 15, 16]) (va_runV (own := "QuakeServer$Program") (C := "QuakeServer$Program") (As := [.int (a1), .int (g 12 a1.toNatClampNeg)]) (rest := []) ⟨hx, hb, hml, hown, hg⟩ (c_P_firstPart l dC dI h c H.size g (a1) (g 12 a1.toNatClampNeg) r2 u3 hX) (cwV 2 hg (qs_gV t_328 t_329 t_330 t_4 t_331) rfl rfl rfl (by decide +kernel) ⟨Nat.le_of_ble_eq_true rfl, Nat.le_of_ble_eq_true rfl⟩) ⟨qs_blind, va_recv hK hP (ci := 2) (q0 := 3) rfl rfl, fun U hU hW => ⟨rfl, by rw [hU], by rw [hU]; exact hP, va_K.moved hW.alike hK, hD.weaken (fun _ _ _ _ => trivial), hNs.warm hW⟩⟩ rfl rfl hl.1 rfl (lv_room (Nat.le_of_ble_eq_true rfl)) d_P_add_8 ⟨Nat.le_of_ble_eq_true rfl, Nat.le_of_ble_eq_true rfl⟩) rfl hP hD hS hA (fun H locs hP hD hS => ?_)
  refine lv_istore (lv' := [(6, .int (r2)), (0, .ref (h 3)), (1, .int (a1)), (2, .int (a2)), (3, .int (a3)), (4, .int (a4)), (5, .int (a5))]) hx hb d_P_add_11 hl (by decide) rfl (fun ls hl => ?_)
  refine lv_aload_n hx hb d_P_add_13 rfl (lv_at hl 1 rfl) ?_
  refine va_get (D := (dC, dI)) (ci := 2) (v := .ref (h 11)) (C := R_P) (T := T_P) (N := 2) hx hb hg in_P hown hK hP 3 rfl rfl 0 (by decide) (hg _ t_63) (fun _ h9 => h9) rfl d_P_add_14 ?_
  refine lv_iload hx hb d_P_add_17 (lv_at hl 0 rfl) ?_
  refine lv_iload_n hx hb d_P_add_19 rfl (lv_at hl 3 rfl) ?_
  obtain ⟨c4, hF⟩ := qs_in_some hF
  refine va_iast hx hb hK hP hD hS 11 4 rfl rfl c4 d_P_add_20 (fun H locs hP hD hS => ?_)
  obtain ⟨u5, hu5, hF⟩ := qs_st_some hF
  have hP : va_P (dC, dI) vwCl (qs_W h c u5) H := by rw [hu5]; exact hP
  have hD : va_D A (qs_W h c u5) := by rw [hu5]; exact hD
  clear hu5
  refine lv_aload_n hx hb d_P_add_21 rfl (lv_at hl 1 rfl) ?_
  refine va_get (D := (dC, dI)) (ci := 2) (v := .ref (h 11)) (C := R_P) (T := T_P) (N := 2) hx hb hg in_P hown hK hP 3 rfl rfl 0 (by decide) (hg _ t_63) (fun _ h9 => h9) rfl d_P_add_22 ?_
  refine lv_iload hx hb d_P_add_25 (lv_at hl 0 rfl) ?_
  refine lv_iconst (v := 1) hx hb d_P_add_27 (by decide) ?_
  refine lv_iadd hx hb d_P_add_28 ?_
  refine lv_iload_n hx hb d_P_add_29 rfl (lv_at hl 4 rfl) ?_
  obtain ⟨c6, hF⟩ := qs_in_some hF
  refine va_iast hx hb hK hP hD hS 11 4 rfl rfl c6 d_P_add_30 (fun H locs hP hD hS => ?_)
  obtain ⟨u7, hu7, hF⟩ := qs_st_some hF
  have hP : va_P (dC, dI) vwCl (qs_W h c u7) H := by rw [hu7]; exact hP
  have hD : va_D A (qs_W h c u7) := by rw [hu7]; exact hD
  clear hu7
  refine lv_aload_n hx hb d_P_add_31 rfl (lv_at hl 1 rfl) ?_
  refine va_get (D := (dC, dI)) (ci := 2) (v := .ref (h 11)) (C := R_P) (T := T_P) (N := 2) hx hb hg in_P hown hK hP 3 rfl rfl 0 (by decide) (hg _ t_63) (fun _ h9 => h9) rfl d_P_add_32 ?_
  refine lv_iload hx hb d_P_add_35 (lv_at hl 0 rfl) ?_
  refine lv_iconst (v := 2) hx hb d_P_add_37 (by decide) ?_
  refine lv_iadd hx hb d_P_add_38 ?_
  refine lv_iload hx hb d_P_add_39 (lv_at hl 5 rfl) ?_
  obtain ⟨c8, hF⟩ := qs_in_some hF
  refine va_iast hx hb hK hP hD hS 11 4 rfl rfl c8 d_P_add_41 (fun H locs hP hD hS => ?_)
  obtain ⟨u9, hu9, hF⟩ := qs_st_some hF
  have hP : va_P (dC, dI) vwCl (qs_W h c u9) H := by rw [hu9]; exact hP
  have hD : va_D A (qs_W h c u9) := by rw [hu9]; exact hD
  clear hu9
  refine lv_aload_n hx hb d_P_add_42 rfl (lv_at hl 1 rfl) ?_
  refine va_get (D := (dC, dI)) (ci := 2) (v := .ref (h 11)) (C := R_P) (T := T_P) (N := 2) hx hb hg in_P hown hK hP 3 rfl rfl 0 (by decide) (hg _ t_63) (fun _ h9 => h9) rfl d_P_add_43 ?_
  refine lv_iload hx hb d_P_add_46 (lv_at hl 0 rfl) ?_
  refine lv_iconst (v := 3) hx hb d_P_add_48 (by decide) ?_
  refine lv_iadd hx hb d_P_add_49 ?_
  refine lv_iload hx hb d_P_add_50 (lv_at hl 6 rfl) ?_
  obtain ⟨c10, hF⟩ := qs_in_some hF
  refine va_iast hx hb hK hP hD hS 11 4 rfl rfl c10 d_P_add_52 (fun H locs hP hD hS => ?_)
  obtain ⟨u11, hu11, hF⟩ := qs_st_some hF
  have hP : va_P (dC, dI) vwCl (qs_W h c u11) H := by rw [hu11]; exact hP
  have hD : va_D A (qs_W h c u11) := by rw [hu11]; exact hD
  clear hu11
  refine lv_aload_n hx hb d_P_add_53 rfl (lv_at hl 1 rfl) ?_
  refine va_get (D := (dC, dI)) (ci := 2) (v := .ref (h 12)) (C := R_P) (T := T_P) (N := 2) hx hb hg in_P hown hK hP 3 rfl rfl 1 (by decide) (hg _ t_65) (fun _ h9 => h9) rfl d_P_add_54 ?_
  refine lv_iload_n hx hb d_P_add_57 rfl (lv_at hl 2 rfl) ?_
  refine lv_dup2_11 hx hb d_P_add_58 rfl rfl ?_
  obtain ⟨c12, hF⟩ := qs_in_some hF
  refine va_iald hx hb hK hP 12 5 rfl rfl c12 d_P_add_59 ?_
  refine lv_iconst (v := 1) hx hb d_P_add_60 (by decide) ?_
  refine lv_iadd hx hb d_P_add_61 ?_
  obtain ⟨c13, hF⟩ := qs_in_some hF
  refine va_iast hx hb hK hP hD hS 12 5 rfl rfl c13 d_P_add_62 (fun H locs hP hD hS => ?_)
  obtain ⟨u14, hu14, hF⟩ := qs_st_some hF
  have hP : va_P (dC, dI) vwCl (qs_W h c u14) H := by rw [hu14]; exact hP
  have hD : va_D A (qs_W h c u14) := by rw [hu14]; exact hD
  clear hu14
  refine lv_aload_n hx hb d_P_add_63 rfl (lv_at hl 1 rfl) ?_
  refine va_get (D := (dC, dI)) (ci := 2) (v := .ref (h 12)) (C := R_P) (T := T_P) (N := 2) hx hb hg in_P hown hK hP 3 rfl rfl 1 (by decide) (hg _ t_65) (fun _ h9 => h9) rfl d_P_add_64 ?_
  refine lv_iload_n hx hb d_P_add_67 rfl (lv_at hl 2 rfl) ?_
  obtain ⟨c15, hF⟩ := qs_in_some hF
  refine va_iald hx hb hK hP 12 5 rfl rfl c15 d_P_add_68 ?_
  obtain ⟨h8, h9⟩ := qs_ret hF
  exact W.iret (v := u14 12 a1.toNatClampNeg) hx hb hr (fun t ht hW => ⟨⟨(u14 12 a1.toNatClampNeg), u14, rfl, ⟨h8, h9⟩, by rw [ht]; exact hP, va_K.moved hW.alike hK, hD⟩, hS.F ht⟩) hS.2.2 d_P_add_69
