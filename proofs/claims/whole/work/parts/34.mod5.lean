theorem d_N_half_0 : decode b_N_half 0 = .ok (.aload_n 0, 1) := by decide +kernel
theorem d_N_half_1 : decode b_N_half 1 = .ok (.getfield 7, 3) := by decide +kernel
theorem d_N_half_4 : decode b_N_half 4 = .ok (.bipush 16, 2) := by decide +kernel
theorem d_N_half_6 : decode b_N_half 6 = .ok (.iload_n 1, 1) := by decide +kernel
theorem d_N_half_7 : decode b_N_half 7 = .ok (.imul, 1) := by decide +kernel
theorem d_N_half_8 : decode b_N_half 8 = .ok (.iconst 4, 1) := by decide +kernel
theorem d_N_half_9 : decode b_N_half 9 = .ok (.iadd, 1) := by decide +kernel
theorem d_N_half_10 : decode b_N_half 10 = .ok (.laload, 1) := by decide +kernel
theorem d_N_half_11 : decode b_N_half 11 = .ok (.lstore_n 2, 1) := by decide +kernel
theorem d_N_half_12 : decode b_N_half 12 = .ok (.lload_n 2, 1) := by decide +kernel
theorem d_N_half_13 : decode b_N_half 13 = .ok (.ldc2_w 59, 3) := by decide +kernel
theorem d_N_half_16 : decode b_N_half 16 = .ok (.lcmp, 1) := by decide +kernel
theorem d_N_half_17 : decode b_N_half 17 = .ok (.ifCond .ge 9, 3) := by decide +kernel
theorem d_N_half_20 : decode b_N_half 20 = .ok (.ldc2_w 59, 3) := by decide +kernel
theorem d_N_half_23 : decode b_N_half 23 = .ok (.goto 18, 3) := by decide +kernel
theorem d_N_half_26 : decode b_N_half 26 = .ok (.lload_n 2, 1) := by decide +kernel
theorem d_N_half_27 : decode b_N_half 27 = .ok (.ldc2_w 160, 3) := by decide +kernel
theorem d_N_half_30 : decode b_N_half 30 = .ok (.lcmp, 1) := by decide +kernel
theorem d_N_half_31 : decode b_N_half 31 = .ok (.ifCond .le 9, 3) := by decide +kernel
theorem d_N_half_34 : decode b_N_half 34 = .ok (.ldc2_w 160, 3) := by decide +kernel
theorem d_N_half_37 : decode b_N_half 37 = .ok (.goto 4, 3) := by decide +kernel
theorem d_N_half_40 : decode b_N_half 40 = .ok (.lload_n 2, 1) := by decide +kernel
theorem d_N_half_41 : decode b_N_half 41 = .ok (.lreturn, 1) := by decide +kernel
def f_N_half (g : Sm) (a1 : Int32) : Option (Int64 × Sm) := (qs_in ((16 * a1) + 4) 192 (if 0 ≤ (lg_cmp (g.2 1 ((16 * a1) + 4).toNatClampNeg) (8 : Int64)) then (if (lg_cmp (g.2 1 ((16 * a1) + 4).toNatClampNeg) (256 : Int64)) ≤ 0 then (some (g.2 1 ((16 * a1) + 4).toNatClampNeg, g)) else (some ((256 : Int64), g))) else (some ((8 : Int64), g))))
set_option maxHeartbeats 4000000 in
set_option maxRecDepth 100000 in
theorem c_N_half (l : Launch) (dC : Nat → ClassId) (dI : Nat → Nat → Nat) (h : Nat → Nat) (c : Nat → ClassId) (sz : Nat) (g : Sm) (a1 : Int32) (r0 : Int64) (u0 : Sm) (hF : f_N_half g a1 = some (r0, u0)) : Met l y_N_half (qs_ws y_N_half b_N_half 4 (some .long)) ({ frames := 0, cells := 0, slots := 0, locals := 0 } : Room) (va_Pc ([.ref (h 0), .int a1] : List Value) (fun U => U.heap.size = sz ∧ va_P (dC, dI) vwCl (ms_W h c g) U.heap ∧ va_K (dC, dI) vwCl (ms_T c) U ∧ va_D (fun _ => True) (ms_W h c g) ∧ qs_N U)) (va_Ql (fun (r : Int64) (u : Sm) => r = r0 ∧ u = u0) (ms_at dC dI h c (va_A (ms_W h c g) sz)) (va_A (ms_W h c g) sz)) 0 0 (va_A (ms_W h c g) sz) := by
  refine Met.ofW (cc := b_N_half) (maxL := 4) (ret := (some .long)) (by decide +kernel) rfl ?_
  intro p e s m args below meth cd s₁ B hml hv
  obtain ⟨rfl, hsz, hP, hK, hD0, hNs⟩ := hv
  have hx := B.exec
  have hb := B.bytes
  have hr := B.returns
  have hts := atoms_spec (ws := (qs_ws y_N_half b_N_half 4 (some .long))) B.pre
  have hg : ∀ w ∈ qs_gt, w.before _ s = true := fun w h => hts w (List.mem_cons_of_mem _ h)
  have hown : s.vm.findClass R_N = some m.cls := findClass_of_methodNamed B.named
  have hlocks := B.notSynchronized
  subst hsz
  have hD := hD0.self (sz := s.heap.size)
  generalize hAe : va_A (ms_W h c g) s.heap.size = A at hD ⊢
  have hA : ∀ q : Nat, s.heap.size ≤ q → A q := fun q h => by rw [← hAe]; exact Or.inr h
  have hS : va_S A s.heap s.heap [] := va_S.rf
  have hl := lv_entry ([.ref (h 0), .int a1] : List Value) (n := 4) (Nat.le_of_ble_eq_true rfl)
  rw [lg_entry_eq]
  generalize (lg_sl ([.ref (h 0), .int a1] : List Value) ++ List.replicate (4 - (lg_sl ([.ref (h 0), .int a1] : List Value)).length) Slot.unset).toArray = ls at hl ⊢
  have hl : lv_has ls 4 [(0, .ref (h 0)), (1, .int (a1))] := hl
  unfold f_N_half at hF
  obtain ⟨H, hHe⟩ : ∃ H, H = s.heap := ⟨_, rfl⟩
  obtain ⟨locs, hLe⟩ : ∃ L : List Loc, L = [] := ⟨_, rfl⟩
  rw [← hHe] at hP ⊢
  rw [← hLe]
  have hS : va_S A s.heap H locs := by rw [hHe, hLe]; exact hS
  refine lv_aload_n hx hb d_N_half_0 rfl (lv_at hl 0 rfl) ?_
  refine va_get (D := (dC, dI)) (ci := 7) (v := .ref (h 1)) (C := R_N) (T := T_N) (N := 22) hx hb hg in_N hown hK hP 0 rfl rfl 1 (by decide) (hg _ t_619) (fun _ h9 => h9) rfl d_N_half_1 ?_
  refine lv_bipush (v := 16) hx hb d_N_half_4 (by decide) ?_
  refine lv_iload_n hx hb d_N_half_6 rfl (lv_at hl 1 rfl) ?_
  refine lv_imul hx hb d_N_half_7 ?_
  refine lv_iconst (v := 4) hx hb d_N_half_8 (by decide) ?_
  refine lv_iadd hx hb d_N_half_9 ?_
  obtain ⟨c1, hF⟩ := qs_in_some hF
  refine va_lald hx hb hK hP 1 0 rfl rfl c1 d_N_half_10 ?_
  refine lv_lstore_n (lv' := [(2, .long (g.2 1 ((16 * a1) + 4).toNatClampNeg)), (0, .ref (h 0)), (1, .int (a1))]) hx hb d_N_half_11 rfl hl (by decide) rfl (fun ls hl => ?_)
  refine lv_lload_n hx hb d_N_half_12 rfl (lv_at hl 0 rfl) ?_
  refine lv_ldc2 (v := 8) hx hb hown (hg _ t_701) d_N_half_13 ?_
  refine W.lcmp hx hb d_N_half_16 ?_
  refine lv_if_ge (tgt := 26) hx hb d_N_half_17 (by decide) (fun c2 => ?_) (fun c2 => ?_)
  · have hF := qs_pos c2 hF
    refine lv_lload_n hx hb d_N_half_26 rfl (lv_at hl 0 rfl) ?_
    refine lv_ldc2 (v := 256) hx hb hown (hg _ t_820) d_N_half_27 ?_
    refine W.lcmp hx hb d_N_half_30 ?_
    refine lv_if_le (tgt := 40) hx hb d_N_half_31 (by decide) (fun c3 => ?_) (fun c3 => ?_)
    · have hF := qs_pos c3 hF
      refine lv_lload_n hx hb d_N_half_40 rfl (lv_at hl 0 rfl) ?_
      obtain ⟨h8, h9⟩ := qs_ret hF
      exact W.lret (v := g.2 1 ((16 * a1) + 4).toNatClampNeg) hx hb hr (fun t ht hW => ⟨⟨(g.2 1 ((16 * a1) + 4).toNatClampNeg), g, rfl, ⟨h8, h9⟩, by rw [ht]; exact hP, va_K.moved hW.alike hK, hD⟩, hS.F ht⟩) hS.2.2 d_N_half_41
    · have hF := qs_neg c3 hF
      refine lv_ldc2 (v := 256) hx hb hown (hg _ t_820) d_N_half_34 ?_
      refine lv_goto (tgt := 41) hx hb d_N_half_37 (by decide) ?_
      obtain ⟨h8, h9⟩ := qs_ret hF
      exact W.lret (v := (256 : Int64)) hx hb hr (fun t ht hW => ⟨⟨(256 : Int64), g, rfl, ⟨h8, h9⟩, by rw [ht]; exact hP, va_K.moved hW.alike hK, hD⟩, hS.F ht⟩) hS.2.2 d_N_half_41
  · have hF := qs_neg c2 hF
    refine lv_ldc2 (v := 8) hx hb hown (hg _ t_701) d_N_half_20 ?_
    refine lv_goto (tgt := 41) hx hb d_N_half_23 (by decide) ?_
    obtain ⟨h8, h9⟩ := qs_ret hF
    exact W.lret (v := (8 : Int64)) hx hb hr (fun t ht hW => ⟨⟨(8 : Int64), g, rfl, ⟨h8, h9⟩, by rw [ht]; exact hP, va_K.moved hW.alike hK, hD⟩, hS.F ht⟩) hS.2.2 d_N_half_41

theorem d_N_meets_0 : decode b_N_meets 0 = .ok (.aload_n 0, 1) := by decide +kernel
theorem d_N_meets_1 : decode b_N_meets 1 = .ok (.getfield 7, 3) := by decide +kernel
theorem d_N_meets_4 : decode b_N_meets 4 = .ok (.bipush 16, 2) := by decide +kernel
theorem d_N_meets_6 : decode b_N_meets 6 = .ok (.iload_n 1, 1) := by decide +kernel
theorem d_N_meets_7 : decode b_N_meets 7 = .ok (.imul, 1) := by decide +kernel
theorem d_N_meets_8 : decode b_N_meets 8 = .ok (.iload_n 3, 1) := by decide +kernel
theorem d_N_meets_9 : decode b_N_meets 9 = .ok (.iadd, 1) := by decide +kernel
theorem d_N_meets_10 : decode b_N_meets 10 = .ok (.laload, 1) := by decide +kernel
theorem d_N_meets_11 : decode b_N_meets 11 = .ok (.lstore 4, 2) := by decide +kernel
theorem d_N_meets_13 : decode b_N_meets 13 = .ok (.aload_n 0, 1) := by decide +kernel
theorem d_N_meets_14 : decode b_N_meets 14 = .ok (.getfield 7, 3) := by decide +kernel
theorem d_N_meets_17 : decode b_N_meets 17 = .ok (.bipush 16, 2) := by decide +kernel
theorem d_N_meets_19 : decode b_N_meets 19 = .ok (.iload_n 2, 1) := by decide +kernel
theorem d_N_meets_20 : decode b_N_meets 20 = .ok (.imul, 1) := by decide +kernel
theorem d_N_meets_21 : decode b_N_meets 21 = .ok (.iload_n 3, 1) := by decide +kernel
theorem d_N_meets_22 : decode b_N_meets 22 = .ok (.iadd, 1) := by decide +kernel
theorem d_N_meets_23 : decode b_N_meets 23 = .ok (.laload, 1) := by decide +kernel
theorem d_N_meets_24 : decode b_N_meets 24 = .ok (.lstore 6, 2) := by decide +kernel
theorem d_N_meets_26 : decode b_N_meets 26 = .ok (.lload 4, 2) := by decide +kernel
theorem d_N_meets_28 : decode b_N_meets 28 = .ok (.aload_n 0, 1) := by decide +kernel
theorem d_N_meets_29 : decode b_N_meets 29 = .ok (.iload_n 1, 1) := by decide +kernel
theorem d_N_meets_30 : decode b_N_meets 30 = .ok (.invokevirtual 162, 3) := by decide +kernel
theorem d_N_meets_33 : decode b_N_meets 33 = .ok (.lsub, 1) := by decide +kernel
theorem d_N_meets_34 : decode b_N_meets 34 = .ok (.lload 4, 2) := by decide +kernel
theorem d_N_meets_36 : decode b_N_meets 36 = .ok (.aload_n 0, 1) := by decide +kernel
theorem d_N_meets_37 : decode b_N_meets 37 = .ok (.iload_n 1, 1) := by decide +kernel
theorem d_N_meets_38 : decode b_N_meets 38 = .ok (.invokevirtual 162, 3) := by decide +kernel
theorem d_N_meets_41 : decode b_N_meets 41 = .ok (.ladd, 1) := by decide +kernel
theorem d_N_meets_42 : decode b_N_meets 42 = .ok (.lload 6, 2) := by decide +kernel
theorem d_N_meets_44 : decode b_N_meets 44 = .ok (.aload_n 0, 1) := by decide +kernel
theorem d_N_meets_45 : decode b_N_meets 45 = .ok (.iload_n 2, 1) := by decide +kernel
theorem d_N_meets_46 : decode b_N_meets 46 = .ok (.invokevirtual 162, 3) := by decide +kernel
theorem d_N_meets_49 : decode b_N_meets 49 = .ok (.lsub, 1) := by decide +kernel
theorem d_N_meets_50 : decode b_N_meets 50 = .ok (.lload 6, 2) := by decide +kernel
theorem d_N_meets_52 : decode b_N_meets 52 = .ok (.aload_n 0, 1) := by decide +kernel
theorem d_N_meets_53 : decode b_N_meets 53 = .ok (.iload_n 2, 1) := by decide +kernel
theorem d_N_meets_54 : decode b_N_meets 54 = .ok (.invokevirtual 162, 3) := by decide +kernel
theorem d_N_meets_57 : decode b_N_meets 57 = .ok (.ladd, 1) := by decide +kernel
theorem d_N_meets_58 : decode b_N_meets 58 = .ok (.invokestatic 165, 3) := by decide +kernel
theorem d_N_meets_61 : decode b_N_meets 61 = .ok (.ireturn, 1) := by decide +kernel
def f_N_meets (g : Sm) (a1 : Int32) (a2 : Int32) (a3 : Int32) : Option (Int32 × Sm) := (qs_in ((16 * a1) + a3) 192 (qs_in ((16 * a2) + a3) 192 (qs_bn (f_N_half g (a1)) fun r3 u4 => (qs_bn (f_N_half u4 (a1)) fun r5 u6 => (qs_bn (f_N_half u6 (a2)) fun r7 u8 => (qs_bn (f_N_half u8 (a2)) fun r9 u10 => (qs_pb (f_N_overlap ((g.2 1 ((16 * a1) + a3).toNatClampNeg) - r3) ((g.2 1 ((16 * a1) + a3).toNatClampNeg) + r5) ((g.2 1 ((16 * a2) + a3).toNatClampNeg) - r7) ((g.2 1 ((16 * a2) + a3).toNatClampNeg) + r9)) fun r11 => (qs_bo (r11) (some (r11, u10))))))))))
set_option maxHeartbeats 4000000 in
set_option maxRecDepth 100000 in
theorem c_N_meets (l : Launch) (dC : Nat → ClassId) (dI : Nat → Nat → Nat) (h : Nat → Nat) (c : Nat → ClassId) (sz : Nat) (g : Sm) (a1 : Int32) (a2 : Int32) (a3 : Int32) (r0 : Int32) (u0 : Sm) (hF : f_N_meets g a1 a2 a3 = some (r0, u0)) : Met l y_N_meets (qs_ws y_N_meets b_N_meets 8 (some .boolean)) ({ frames := 1, cells := 0, slots := 0, locals := 27 } : Room) (va_Pc ([.ref (h 0), .int a1, .int a2, .int a3] : List Value) (fun U => U.heap.size = sz ∧ va_P (dC, dI) vwCl (ms_W h c g) U.heap ∧ va_K (dC, dI) vwCl (ms_T c) U ∧ va_D (fun _ => True) (ms_W h c g) ∧ qs_N U)) (va_Qi (fun (r : Int32) (u : Sm) => r = r0 ∧ u = u0) (ms_at dC dI h c (va_A (ms_W h c g) sz)) (va_A (ms_W h c g) sz)) 0 0 (va_A (ms_W h c g) sz) := by
  refine Met.ofW (cc := b_N_meets) (maxL := 8) (ret := (some .boolean)) (by decide +kernel) rfl ?_
  intro p e s m args below meth cd s₁ B hml hv
  obtain ⟨rfl, hsz, hP, hK, hD0, hNs⟩ := hv
  have hx := B.exec
  have hb := B.bytes
  have hr := B.returns
  have hts := atoms_spec (ws := (qs_ws y_N_meets b_N_meets 8 (some .boolean))) B.pre
  have hg : ∀ w ∈ qs_gt, w.before _ s = true := fun w h => hts w (List.mem_cons_of_mem _ h)
  have hown : s.vm.findClass R_N = some m.cls := findClass_of_methodNamed B.named
  have hlocks := B.notSynchronized
  subst hsz
  have hD := hD0.self (sz := s.heap.size)
  generalize hAe : va_A (ms_W h c g) s.heap.size = A at hD ⊢
  have hA : ∀ q : Nat, s.heap.size ≤ q → A q := fun q h => by rw [← hAe]; exact Or.inr h
  have hS : va_S A s.heap s.heap [] := va_S.rf
  have hl := lv_entry ([.ref (h 0), .int a1, .int a2, .int a3] : List Value) (n := 8) (Nat.le_of_ble_eq_true rfl)
  rw [lg_entry_eq]
  generalize (lg_sl ([.ref (h 0), .int a1, .int a2, .int a3] : List Value) ++ List.replicate (8 - (lg_sl ([.ref (h 0), .int a1, .int a2, .int a3] : List Value)).length) Slot.unset).toArray = ls at hl ⊢
  have hl : lv_has ls 8 [(0, .ref (h 0)), (1, .int (a1)), (2, .int (a2)), (3, .int (a3))] := hl
  unfold f_N_meets at hF
  obtain ⟨H, hHe⟩ : ∃ H, H = s.heap := ⟨_, rfl⟩
  obtain ⟨locs, hLe⟩ : ∃ L : List Loc, L = [] := ⟨_, rfl⟩
  rw [← hHe] at hP ⊢
  rw [← hLe]
  have hS : va_S A s.heap H locs := by rw [hHe, hLe]; exact hS
  refine lv_aload_n hx hb d_N_meets_0 rfl (lv_at hl 0 rfl) ?_
  refine va_get (D := (dC, dI)) (ci := 7) (v := .ref (h 1)) (C := R_N) (T := T_N) (N := 22) hx hb hg in_N hown hK hP 0 rfl rfl 1 (by decide) (hg _ t_619) (fun _ h9 => h9) rfl d_N_meets_1 ?_
  refine lv_bipush (v := 16) hx hb d_N_meets_4 (by decide) ?_
  refine lv_iload_n hx hb d_N_meets_6 rfl (lv_at hl 1 rfl) ?_
  refine lv_imul hx hb d_N_meets_7 ?_
  refine lv_iload_n hx hb d_N_meets_8 rfl (lv_at hl 3 rfl) ?_
  refine lv_iadd hx hb d_N_meets_9 ?_
  obtain ⟨c1, hF⟩ := qs_in_some hF
  refine va_lald hx hb hK hP 1 0 rfl rfl c1 d_N_meets_10 ?_
  refine lv_lstore (lv' := [(4, .long (g.2 1 ((16 * a1) + a3).toNatClampNeg)), (0, .ref (h 0)), (1, .int (a1)), (2, .int (a2)), (3, .int (a3))]) hx hb d_N_meets_11 hl (by decide) rfl (fun ls hl => ?_)
  refine lv_aload_n hx hb d_N_meets_13 rfl (lv_at hl 1 rfl) ?_
  refine va_get (D := (dC, dI)) (ci := 7) (v := .ref (h 1)) (C := R_N) (T := T_N) (N := 22) hx hb hg in_N hown hK hP 0 rfl rfl 1 (by decide) (hg _ t_619) (fun _ h9 => h9) rfl d_N_meets_14 ?_
  refine lv_bipush (v := 16) hx hb d_N_meets_17 (by decide) ?_
  refine lv_iload_n hx hb d_N_meets_19 rfl (lv_at hl 3 rfl) ?_
  refine lv_imul hx hb d_N_meets_20 ?_
  refine lv_iload_n hx hb d_N_meets_21 rfl (lv_at hl 4 rfl) ?_
  refine lv_iadd hx hb d_N_meets_22 ?_
  obtain ⟨c2, hF⟩ := qs_in_some hF
  refine va_lald hx hb hK hP 1 0 rfl rfl c2 d_N_meets_23 ?_
  refine lv_lstore (lv' := [(6, .long (g.2 1 ((16 * a2) + a3).toNatClampNeg)), (4, .long (g.2 1 ((16 * a1) + a3).toNatClampNeg)), (0, .ref (h 0)), (1, .int (a1)), (2, .int (a2)), (3, .int (a3))]) hx hb d_N_meets_24 hl (by decide) rfl (fun ls hl => ?_)
  refine lv_lload hx hb d_N_meets_26 (lv_at hl 1 rfl) ?_
  refine lv_aload_n hx hb d_N_meets_28 rfl (lv_at hl 2 rfl) ?_
  refine lv_iload_n hx hb d_N_meets_29 rfl (lv_at hl 3 rfl) ?_
  obtain ⟨r3, u4, hX, hF⟩ := qs_bn_some hF
  refine qs_cl (Wd := ms_W h c) (isC := [0, 1, 2, 3, 4, 5, 6, 7, 8, 9, 10, 11, 12]) (va_runV (own := "QuakeServerModel") (C := "QuakeServerModel") (As := [.int (a1)]) (rest := [.long (g.2 1 ((16 * a1) + a3).toNatClampNeg)]) ⟨hx, hb, hml, hown, hg⟩ (c_N_half l dC dI h c H.size g (a1) r3 u4 hX) (cwV 1 hg (qs_gV t_816 t_818 tp_30 t_8 t_819) rfl rfl rfl (by decide +kernel) ⟨Nat.le_of_ble_eq_true rfl, Nat.le_of_ble_eq_true rfl⟩) ⟨qs_blind, va_recv hK hP (ci := 7) (q0 := 0) rfl rfl, fun U hU hW => ⟨rfl, by rw [hU], by rw [hU]; exact hP, va_K.moved hW.alike hK, hD.weaken (fun _ _ _ _ => trivial), hNs.warm hW⟩⟩ rfl rfl hl.1 rfl (lv_room (Nat.le_of_ble_eq_true rfl)) d_N_meets_30 ⟨Nat.le_of_ble_eq_true rfl, Nat.le_of_ble_eq_true rfl⟩) rfl hP hD hS hA (fun H locs hP hD hS => ?_)
  refine lv_lsub hx hb d_N_meets_33 ?_
  refine lv_lload hx hb d_N_meets_34 (lv_at hl 1 rfl) ?_
  refine lv_aload_n hx hb d_N_meets_36 rfl (lv_at hl 2 rfl) ?_
  refine lv_iload_n hx hb d_N_meets_37 rfl (lv_at hl 3 rfl) ?_
  obtain ⟨r5, u6, hX, hF⟩ := qs_bn_some hF
  refine qs_cl (Wd := ms_W h c) (isC := [0, 1, 2, 3, 4, 5, 6, 7, 8, 9, 10, 11, 12]) (va_runV (own := "QuakeServerModel") (C := "QuakeServerModel") (As := [.int (a1)]) (rest := [.long (g.2 1 ((16 * a1) + a3).toNatClampNeg), .long ((g.2 1 ((16 * a1) + a3).toNatClampNeg) - r3)]) ⟨hx, hb, hml, hown, hg⟩ (c_N_half l dC dI h c H.size u4 (a1) r5 u6 hX) (cwV 1 hg (qs_gV t_816 t_818 tp_30 t_8 t_819) rfl rfl rfl (by decide +kernel) ⟨Nat.le_of_ble_eq_true rfl, Nat.le_of_ble_eq_true rfl⟩) ⟨qs_blind, va_recv hK hP (ci := 7) (q0 := 0) rfl rfl, fun U hU hW => ⟨rfl, by rw [hU], by rw [hU]; exact hP, va_K.moved hW.alike hK, hD.weaken (fun _ _ _ _ => trivial), hNs.warm hW⟩⟩ rfl rfl hl.1 rfl (lv_room (Nat.le_of_ble_eq_true rfl)) d_N_meets_38 ⟨Nat.le_of_ble_eq_true rfl, Nat.le_of_ble_eq_true rfl⟩) rfl hP hD hS hA (fun H locs hP hD hS => ?_)
  refine lv_ladd hx hb d_N_meets_41 ?_
  refine lv_lload hx hb d_N_meets_42 (lv_at hl 0 rfl) ?_
  refine lv_aload_n hx hb d_N_meets_44 rfl (lv_at hl 2 rfl) ?_
  refine lv_iload_n hx hb d_N_meets_45 rfl (lv_at hl 4 rfl) ?_
  obtain ⟨r7, u8, hX, hF⟩ := qs_bn_some hF
  refine qs_cl (Wd := ms_W h c) (isC := [0, 1, 2, 3, 4, 5, 6, 7, 8, 9, 10, 11, 12]) (va_runV (own := "QuakeServerModel") (C := "QuakeServerModel") (As := [.int (a2)]) (rest := [.long (g.2 1 ((16 * a2) + a3).toNatClampNeg), .long ((g.2 1 ((16 * a1) + a3).toNatClampNeg) + r5), .long ((g.2 1 ((16 * a1) + a3).toNatClampNeg) - r3)]) ⟨hx, hb, hml, hown, hg⟩ (c_N_half l dC dI h c H.size u6 (a2) r7 u8 hX) (cwV 1 hg (qs_gV t_816 t_818 tp_30 t_8 t_819) rfl rfl rfl (by decide +kernel) ⟨Nat.le_of_ble_eq_true rfl, Nat.le_of_ble_eq_true rfl⟩) ⟨qs_blind, va_recv hK hP (ci := 7) (q0 := 0) rfl rfl, fun U hU hW => ⟨rfl, by rw [hU], by rw [hU]; exact hP, va_K.moved hW.alike hK, hD.weaken (fun _ _ _ _ => trivial), hNs.warm hW⟩⟩ rfl rfl hl.1 rfl (lv_room (Nat.le_of_ble_eq_true rfl)) d_N_meets_46 ⟨Nat.le_of_ble_eq_true rfl, Nat.le_of_ble_eq_true rfl⟩) rfl hP hD hS hA (fun H locs hP hD hS => ?_)
  refine lv_lsub hx hb d_N_meets_49 ?_
  refine lv_lload hx hb d_N_meets_50 (lv_at hl 0 rfl) ?_
  refine lv_aload_n hx hb d_N_meets_52 rfl (lv_at hl 2 rfl) ?_
  refine lv_iload_n hx hb d_N_meets_53 rfl (lv_at hl 4 rfl) ?_
  obtain ⟨r9, u10, hX, hF⟩ := qs_bn_some hF
  refine qs_cl (Wd := ms_W h c) (isC := [0, 1, 2, 3, 4, 5, 6, 7, 8, 9, 10, 11, 12]) (va_runV (own := "QuakeServerModel") (C := "QuakeServerModel") (As := [.int (a2)]) (rest := [.long (g.2 1 ((16 * a2) + a3).toNatClampNeg), .long ((g.2 1 ((16 * a2) + a3).toNatClampNeg) - r7), .long ((g.2 1 ((16 * a1) + a3).toNatClampNeg) + r5), .long ((g.2 1 ((16 * a1) + a3).toNatClampNeg) - r3)]) ⟨hx, hb, hml, hown, hg⟩ (c_N_half l dC dI h c H.size u8 (a2) r9 u10 hX) (cwV 1 hg (qs_gV t_816 t_818 tp_30 t_8 t_819) rfl rfl rfl (by decide +kernel) ⟨Nat.le_of_ble_eq_true rfl, Nat.le_of_ble_eq_true rfl⟩) ⟨qs_blind, va_recv hK hP (ci := 7) (q0 := 0) rfl rfl, fun U hU hW => ⟨rfl, by rw [hU], by rw [hU]; exact hP, va_K.moved hW.alike hK, hD.weaken (fun _ _ _ _ => trivial), hNs.warm hW⟩⟩ rfl rfl hl.1 rfl (lv_room (Nat.le_of_ble_eq_true rfl)) d_N_meets_54 ⟨Nat.le_of_ble_eq_true rfl, Nat.le_of_ble_eq_true rfl⟩) rfl hP hD hS hA (fun H locs hP hD hS => ?_)
  refine lv_ladd hx hb d_N_meets_57 ?_
  obtain ⟨r11, hX, hF⟩ := qs_pb_some hF
  refine qs_psi (va_runS (own := "QuakeServerModel") (As := [.long ((g.2 1 ((16 * a1) + a3).toNatClampNeg) - r3), .long ((g.2 1 ((16 * a1) + a3).toNatClampNeg) + r5), .long ((g.2 1 ((16 * a2) + a3).toNatClampNeg) - r7), .long ((g.2 1 ((16 * a2) + a3).toNatClampNeg) + r9)]) (rest := []) ⟨hx, hb, hml, hown, hg⟩ (c_N_overlap l H.size ((g.2 1 ((16 * a1) + a3).toNatClampNeg) - r3) ((g.2 1 ((16 * a1) + a3).toNatClampNeg) + r5) ((g.2 1 ((16 * a2) + a3).toNatClampNeg) - r7) ((g.2 1 ((16 * a2) + a3).toNatClampNeg) + r9) r11 hX) (va_cwS 4 hg (qs_gS t_821 t_822 t_8 t_823) rfl rfl rfl (by decide +kernel) ⟨Nat.le_of_ble_eq_true rfl, Nat.le_of_ble_eq_true rfl⟩) ⟨qs_blind0, fun U hU hW => ⟨rfl, by rw [hU], hNs.warm hW⟩⟩ rfl rfl hl.1 rfl (lv_room (Nat.le_of_ble_eq_true rfl)) d_N_meets_58 ⟨Nat.le_of_ble_eq_true rfl, Nat.le_of_ble_eq_true rfl⟩) hP hD hS hA (fun H locs hP hS => ?_)
  obtain ⟨c12, hF⟩ := qs_bo_some hF
  obtain ⟨h8, h9⟩ := qs_ret hF
  exact W.zret (ty := .boolean) (v := r11) hx hb hr c12 (fun t ht hW => ⟨⟨r11, u10, rfl, ⟨h8, h9⟩, by rw [ht]; exact hP, va_K.moved hW.alike hK, hD⟩, hS.F ht⟩) hS.2.2 d_N_meets_61

theorem d_N_consider_0 : decode b_N_consider 0 = .ok (.iload 4, 2) := by decide +kernel
theorem d_N_consider_2 : decode b_N_consider 2 = .ok (.ifCond .eq 10, 3) := by decide +kernel
theorem d_N_consider_5 : decode b_N_consider 5 = .ok (.lload 5, 2) := by decide +kernel
theorem d_N_consider_7 : decode b_N_consider 7 = .ok (.lload_n 2, 1) := by decide +kernel
theorem d_N_consider_8 : decode b_N_consider 8 = .ok (.lsub, 1) := by decide +kernel
theorem d_N_consider_9 : decode b_N_consider 9 = .ok (.goto 7, 3) := by decide +kernel
theorem d_N_consider_12 : decode b_N_consider 12 = .ok (.lload_n 2, 1) := by decide +kernel
theorem d_N_consider_13 : decode b_N_consider 13 = .ok (.lload 7, 2) := by decide +kernel
theorem d_N_consider_15 : decode b_N_consider 15 = .ok (.lsub, 1) := by decide +kernel
theorem d_N_consider_16 : decode b_N_consider 16 = .ok (.lstore 9, 2) := by decide +kernel
theorem d_N_consider_18 : decode b_N_consider 18 = .ok (.lload 9, 2) := by decide +kernel
theorem d_N_consider_20 : decode b_N_consider 20 = .ok (.lconst 0, 1) := by decide +kernel
theorem d_N_consider_21 : decode b_N_consider 21 = .ok (.lcmp, 1) := by decide +kernel
theorem d_N_consider_22 : decode b_N_consider 22 = .ok (.ifCond .lt 22, 3) := by decide +kernel
theorem d_N_consider_25 : decode b_N_consider 25 = .ok (.aload_n 0, 1) := by decide +kernel
theorem d_N_consider_26 : decode b_N_consider 26 = .ok (.getfield 169, 3) := by decide +kernel
theorem d_N_consider_29 : decode b_N_consider 29 = .ok (.bipush (-2), 2) := by decide +kernel
theorem d_N_consider_31 : decode b_N_consider 31 = .ok (.if_icmp .eq 14, 3) := by decide +kernel
theorem d_N_consider_34 : decode b_N_consider 34 = .ok (.lload 9, 2) := by decide +kernel
theorem d_N_consider_36 : decode b_N_consider 36 = .ok (.aload_n 0, 1) := by decide +kernel
theorem d_N_consider_37 : decode b_N_consider 37 = .ok (.getfield 172, 3) := by decide +kernel
theorem d_N_consider_40 : decode b_N_consider 40 = .ok (.lcmp, 1) := by decide +kernel
theorem d_N_consider_41 : decode b_N_consider 41 = .ok (.ifCond .lt 4, 3) := by decide +kernel
theorem d_N_consider_44 : decode b_N_consider 44 = .ok (.return_, 1) := by decide +kernel
theorem d_N_consider_45 : decode b_N_consider 45 = .ok (.aload_n 0, 1) := by decide +kernel
theorem d_N_consider_46 : decode b_N_consider 46 = .ok (.iload_n 1, 1) := by decide +kernel
theorem d_N_consider_47 : decode b_N_consider 47 = .ok (.putfield 169, 3) := by decide +kernel
theorem d_N_consider_50 : decode b_N_consider 50 = .ok (.aload_n 0, 1) := by decide +kernel
theorem d_N_consider_51 : decode b_N_consider 51 = .ok (.lload 9, 2) := by decide +kernel
theorem d_N_consider_53 : decode b_N_consider 53 = .ok (.putfield 172, 3) := by decide +kernel
theorem d_N_consider_56 : decode b_N_consider 56 = .ok (.return_, 1) := by decide +kernel
def f_N_consider_45  (g : Sm) (x1 : Int32) (x9 : Int64) : Option (Unit × Sm) := (qs_st (qm_i g 27 (x1)) fun u5 => (qs_st (qm_l u5 28 (x9)) fun u6 => (some ((), u6))))
def f_N_consider_16  (g : Sm) (x1 : Int32) (y0 : Int64) : Option (Unit × Sm) := (if (lg_cmp y0 (0 : Int64)) < 0 then (some ((), g)) else (if (g.1 27 0) = (-2) then (f_N_consider_45 g (x1) (y0)) else (if (lg_cmp y0 (g.2 28 0)) < 0 then (f_N_consider_45 g (x1) (y0)) else (some ((), g)))))
def f_N_consider (g : Sm) (a1 : Int32) (a2 : Int64) (a3 : Int32) (a4 : Int64) (a5 : Int64) : Option (Unit × Sm) := (if a3 = 0 then (f_N_consider_16 g (a1) (a2 - a5)) else (f_N_consider_16 g (a1) (a4 - a2)))
set_option maxHeartbeats 4000000 in
set_option maxRecDepth 100000 in
theorem c_N_consider (l : Launch) (dC : Nat → ClassId) (dI : Nat → Nat → Nat) (h : Nat → Nat) (c : Nat → ClassId) (sz : Nat) (g : Sm) (a1 : Int32) (a2 : Int64) (a3 : Int32) (a4 : Int64) (a5 : Int64) (u0 : Sm) (hF : f_N_consider g a1 a2 a3 a4 a5 = some ((), u0)) : Met l y_N_consider (qs_ws y_N_consider b_N_consider 11 none) ({ frames := 0, cells := 0, slots := 0, locals := 0 } : Room) (va_Pc ([.ref (h 0), .int a1, .long a2, .int a3, .long a4, .long a5] : List Value) (fun U => U.heap.size = sz ∧ va_P (dC, dI) vwCl (ms_W h c g) U.heap ∧ va_K (dC, dI) vwCl (ms_T c) U ∧ va_D (fun _ => True) (ms_W h c g) ∧ qs_N U)) (va_Qv (fun (u : Sm) => u = u0) (ms_at dC dI h c (va_A (ms_W h c g) sz)) (va_A (ms_W h c g) sz)) 0 0 (va_A (ms_W h c g) sz) := by
  refine Met.ofW (cc := b_N_consider) (maxL := 11) (ret := none) (by decide +kernel) rfl ?_
  intro p e s m args below meth cd s₁ B hml hv
  obtain ⟨rfl, hsz, hP, hK, hD0, hNs⟩ := hv
  have hx := B.exec
  have hb := B.bytes
  have hr := B.returns
  have hts := atoms_spec (ws := (qs_ws y_N_consider b_N_consider 11 none)) B.pre
  have hg : ∀ w ∈ qs_gt, w.before _ s = true := fun w h => hts w (List.mem_cons_of_mem _ h)
  have hown : s.vm.findClass R_N = some m.cls := findClass_of_methodNamed B.named
  have hlocks := B.notSynchronized
  subst hsz
  have hD := hD0.self (sz := s.heap.size)
  generalize hAe : va_A (ms_W h c g) s.heap.size = A at hD ⊢
  have hA : ∀ q : Nat, s.heap.size ≤ q → A q := fun q h => by rw [← hAe]; exact Or.inr h
  have hS : va_S A s.heap s.heap [] := va_S.rf
  have kb_45 : ∀ (g : Sm) (x1 : Int32) (x9 : Int64) (H : Heap) (locs : List Loc) (ls : Array Slot), va_P (dC, dI) vwCl (ms_W h c g) H → va_D A (ms_W h c g) → va_S A s.heap H locs → lv_has ls 11 [(0, .ref (h 0)), (1, .int (x1)), (9, .long (x9))] → f_N_consider_45  g x1 x9 = some ((), u0) → W p l e (headSpec (qs_ws y_N_consider b_N_consider 11 none) ({ frames := 0, cells := 0, slots := 0, locals := 0 } : Room)).room s m ([.ref (h 0), .int a1, .long a2, .int a3, .long a4, .long a5] : List Value).toArray below meth cd H locs 0 0 (MQ below (va_Qv (fun (u : Sm) => u = u0) (ms_at dC dI h c A) A) ([.ref (h 0), .int a1, .long a2, .int a3, .long a4, .long a5] : List Value).toArray s 0 0 A) (F0 m 45 ls []) := by
    intro g x1 x9 H locs ls hP hD hS hl hF
    unfold f_N_consider_45 at hF
    refine lv_aload_n hx hb d_N_consider_45 rfl (lv_at hl 0 rfl) ?_
    refine lv_iload_n hx hb d_N_consider_46 rfl (lv_at hl 1 rfl) ?_
    refine va_put (D := (dC, dI)) (ci := 7) (v := .int (x1)) (ty := .int) (C := R_N) (T := T_N) (N := 22) hx hb hg in_N ty_N ty_N_ok nm_N hown hK hP hD hS 0 rfl rfl 19 (by decide) (hg _ t_637) (fun _ h9 => h9) rfl (by decide +kernel) rfl rfl (Nat.le_of_ble_eq_true rfl) d_N_consider_47 (fun H locs hP hD hS => ?_)
    obtain ⟨u5, hu5, hF⟩ := qs_st_some hF
    have hP : va_P (dC, dI) vwCl (ms_W h c u5) H := by rw [hu5]; exact hP
    have hD : va_D A (ms_W h c u5) := by rw [hu5]; exact hD
    clear hu5
    refine lv_aload_n hx hb d_N_consider_50 rfl (lv_at hl 0 rfl) ?_
    refine lv_lload hx hb d_N_consider_51 (lv_at hl 2 rfl) ?_
    refine va_put (D := (dC, dI)) (ci := 7) (v := .long (x9)) (ty := .long) (C := R_N) (T := T_N) (N := 22) hx hb hg in_N ty_N ty_N_ok nm_N hown hK hP hD hS 0 rfl rfl 20 (by decide) (hg _ t_638) (fun _ h9 => h9) rfl (by decide +kernel) rfl rfl (Nat.le_of_ble_eq_true rfl) d_N_consider_53 (fun H locs hP hD hS => ?_)
    obtain ⟨u6, hu6, hF⟩ := qs_st_some hF
    have hP : va_P (dC, dI) vwCl (ms_W h c u6) H := by rw [hu6]; exact hP
    have hD : va_D A (ms_W h c u6) := by rw [hu6]; exact hD
    clear hu6
    obtain ⟨h8, h9⟩ := qs_ret hF
    exact W.vret hx hb hr (fun t ht hW => ⟨⟨u6, rfl, h9, by rw [ht]; exact hP, va_K.moved hW.alike hK, hD⟩, hS.F ht⟩) hS.2.2 d_N_consider_56
  have kb_16 : ∀ (g : Sm) (x1 : Int32) (y0 : Int64) (H : Heap) (locs : List Loc) (ls : Array Slot), va_P (dC, dI) vwCl (ms_W h c g) H → va_D A (ms_W h c g) → va_S A s.heap H locs → lv_has ls 11 [(0, .ref (h 0)), (1, .int (x1))] → f_N_consider_16  g x1 y0 = some ((), u0) → W p l e (headSpec (qs_ws y_N_consider b_N_consider 11 none) ({ frames := 0, cells := 0, slots := 0, locals := 0 } : Room)).room s m ([.ref (h 0), .int a1, .long a2, .int a3, .long a4, .long a5] : List Value).toArray below meth cd H locs 0 0 (MQ below (va_Qv (fun (u : Sm) => u = u0) (ms_at dC dI h c A) A) ([.ref (h 0), .int a1, .long a2, .int a3, .long a4, .long a5] : List Value).toArray s 0 0 A) (F0 m 16 ls [.long (y0)]) := by
    intro g x1 y0 H locs ls hP hD hS hl hF
    unfold f_N_consider_16 at hF
    refine lv_lstore (lv' := [(9, .long (y0)), (0, .ref (h 0)), (1, .int (x1))]) hx hb d_N_consider_16 hl (by decide) rfl (fun ls hl => ?_)
    refine lv_lload hx hb d_N_consider_18 (lv_at hl 0 rfl) ?_
    refine lv_lconst (v := 0) hx hb d_N_consider_20 (by decide) ?_
    refine W.lcmp hx hb d_N_consider_21 ?_
    refine lv_if_lt (tgt := 44) hx hb d_N_consider_22 (by decide) (fun c2 => ?_) (fun c2 => ?_)
    · have hF := qs_pos c2 hF
      obtain ⟨h8, h9⟩ := qs_ret hF
      exact W.vret hx hb hr (fun t ht hW => ⟨⟨g, rfl, h9, by rw [ht]; exact hP, va_K.moved hW.alike hK, hD⟩, hS.F ht⟩) hS.2.2 d_N_consider_44
    · have hF := qs_neg c2 hF
      refine lv_aload_n hx hb d_N_consider_25 rfl (lv_at hl 1 rfl) ?_
      refine va_get (D := (dC, dI)) (ci := 7) (v := .int (g.1 27 0)) (C := R_N) (T := T_N) (N := 22) hx hb hg in_N hown hK hP 0 rfl rfl 19 (by decide) (hg _ t_637) (fun _ h9 => h9) rfl d_N_consider_26 ?_
      refine lv_bipush (v := (-2)) hx hb d_N_consider_29 (by decide) ?_
      refine lv_icmp_eq (tgt := 45) hx hb d_N_consider_31 (by decide) (fun c3 => ?_) (fun c3 => ?_)
      · have hF := qs_pos c3 hF
        exact kb_45 g (x1) (y0) H locs ls hP hD hS (lv_sub hl [1, 2, 0] rfl) hF
      · have hF := qs_neg c3 hF
        refine lv_lload hx hb d_N_consider_34 (lv_at hl 0 rfl) ?_
        refine lv_aload_n hx hb d_N_consider_36 rfl (lv_at hl 1 rfl) ?_
        refine va_get (D := (dC, dI)) (ci := 7) (v := .long (g.2 28 0)) (C := R_N) (T := T_N) (N := 22) hx hb hg in_N hown hK hP 0 rfl rfl 20 (by decide) (hg _ t_638) (fun _ h9 => h9) rfl d_N_consider_37 ?_
        refine W.lcmp hx hb d_N_consider_40 ?_
        refine lv_if_lt (tgt := 45) hx hb d_N_consider_41 (by decide) (fun c4 => ?_) (fun c4 => ?_)
        · have hF := qs_pos c4 hF
          exact kb_45 g (x1) (y0) H locs ls hP hD hS (lv_sub hl [1, 2, 0] rfl) hF
        · have hF := qs_neg c4 hF
          obtain ⟨h8, h9⟩ := qs_ret hF
          exact W.vret hx hb hr (fun t ht hW => ⟨⟨g, rfl, h9, by rw [ht]; exact hP, va_K.moved hW.alike hK, hD⟩, hS.F ht⟩) hS.2.2 d_N_consider_44
  have hl := lv_entry ([.ref (h 0), .int a1, .long a2, .int a3, .long a4, .long a5] : List Value) (n := 11) (Nat.le_of_ble_eq_true rfl)
  rw [lg_entry_eq]
  generalize (lg_sl ([.ref (h 0), .int a1, .long a2, .int a3, .long a4, .long a5] : List Value) ++ List.replicate (11 - (lg_sl ([.ref (h 0), .int a1, .long a2, .int a3, .long a4, .long a5] : List Value)).length) Slot.unset).toArray = ls at hl ⊢
  have hl : lv_has ls 11 [(0, .ref (h 0)), (1, .int (a1)), (2, .long (a2)), (4, .int (a3)), (5, .long (a4)), (7, .long (a5))] := hl
  unfold f_N_consider at hF
  obtain ⟨H, hHe⟩ : ∃ H, H = s.heap := ⟨_, rfl⟩
  obtain ⟨locs, hLe⟩ : ∃ L : List Loc, L = [] := ⟨_, rfl⟩
  rw [← hHe] at hP ⊢
  rw [← hLe]
  have hS : va_S A s.heap H locs := by rw [hHe, hLe]; exact hS
  refine lv_iload hx hb d_N_consider_0 (lv_at hl 3 rfl) ?_
  refine lv_if_eq (tgt := 12) hx hb d_N_consider_2 (by decide) (fun c1 => ?_) (fun c1 => ?_)
  · have hF := qs_pos c1 hF
    refine lv_lload_n hx hb d_N_consider_12 rfl (lv_at hl 2 rfl) ?_
    refine lv_lload hx hb d_N_consider_13 (lv_at hl 5 rfl) ?_
    refine lv_lsub hx hb d_N_consider_15 ?_
    exact kb_16 g (a1) (a2 - a5) H locs ls hP hD hS (lv_sub hl [0, 1] rfl) hF
  · have hF := qs_neg c1 hF
    refine lv_lload hx hb d_N_consider_5 (lv_at hl 4 rfl) ?_
    refine lv_lload_n hx hb d_N_consider_7 rfl (lv_at hl 2 rfl) ?_
    refine lv_lsub hx hb d_N_consider_8 ?_
    refine lv_goto (tgt := 16) hx hb d_N_consider_9 (by decide) ?_
    exact kb_16 g (a1) (a4 - a2) H locs ls hP hD hS (lv_sub hl [0, 1] rfl) hF

theorem d_N_blockers_0 : decode b_N_blockers 0 = .ok (.aload_n 0, 1) := by decide +kernel
theorem d_N_blockers_1 : decode b_N_blockers 1 = .ok (.getfield 7, 3) := by decide +kernel
theorem d_N_blockers_4 : decode b_N_blockers 4 = .ok (.bipush 16, 2) := by decide +kernel
theorem d_N_blockers_6 : decode b_N_blockers 6 = .ok (.iload_n 1, 1) := by decide +kernel
theorem d_N_blockers_7 : decode b_N_blockers 7 = .ok (.imul, 1) := by decide +kernel
theorem d_N_blockers_8 : decode b_N_blockers 8 = .ok (.iload_n 2, 1) := by decide +kernel
theorem d_N_blockers_9 : decode b_N_blockers 9 = .ok (.iadd, 1) := by decide +kernel
theorem d_N_blockers_10 : decode b_N_blockers 10 = .ok (.laload, 1) := by decide +kernel
theorem d_N_blockers_11 : decode b_N_blockers 11 = .ok (.iload_n 3, 1) := by decide +kernel
theorem d_N_blockers_12 : decode b_N_blockers 12 = .ok (.ifCond .eq 11, 3) := by decide +kernel
theorem d_N_blockers_15 : decode b_N_blockers 15 = .ok (.aload_n 0, 1) := by decide +kernel
theorem d_N_blockers_16 : decode b_N_blockers 16 = .ok (.iload_n 1, 1) := by decide +kernel
theorem d_N_blockers_17 : decode b_N_blockers 17 = .ok (.invokevirtual 162, 3) := by decide +kernel
theorem d_N_blockers_20 : decode b_N_blockers 20 = .ok (.goto 9, 3) := by decide +kernel
theorem d_N_blockers_23 : decode b_N_blockers 23 = .ok (.aload_n 0, 1) := by decide +kernel
theorem d_N_blockers_24 : decode b_N_blockers 24 = .ok (.iload_n 1, 1) := by decide +kernel
theorem d_N_blockers_25 : decode b_N_blockers 25 = .ok (.invokevirtual 162, 3) := by decide +kernel
theorem d_N_blockers_28 : decode b_N_blockers 28 = .ok (.lneg, 1) := by decide +kernel
theorem d_N_blockers_29 : decode b_N_blockers 29 = .ok (.ladd, 1) := by decide +kernel
theorem d_N_blockers_30 : decode b_N_blockers 30 = .ok (.lstore 4, 2) := by decide +kernel
theorem d_N_blockers_32 : decode b_N_blockers 32 = .ok (.iconst 1, 1) := by decide +kernel
theorem d_N_blockers_33 : decode b_N_blockers 33 = .ok (.iload_n 2, 1) := by decide +kernel
theorem d_N_blockers_34 : decode b_N_blockers 34 = .ok (.isub, 1) := by decide +kernel
theorem d_N_blockers_35 : decode b_N_blockers 35 = .ok (.istore 6, 2) := by decide +kernel
theorem d_N_blockers_37 : decode b_N_blockers 37 = .ok (.aload_n 0, 1) := by decide +kernel
theorem d_N_blockers_38 : decode b_N_blockers 38 = .ok (.getfield 7, 3) := by decide +kernel
theorem d_N_blockers_41 : decode b_N_blockers 41 = .ok (.bipush 16, 2) := by decide +kernel
theorem d_N_blockers_43 : decode b_N_blockers 43 = .ok (.iload_n 1, 1) := by decide +kernel
theorem d_N_blockers_44 : decode b_N_blockers 44 = .ok (.imul, 1) := by decide +kernel
theorem d_N_blockers_45 : decode b_N_blockers 45 = .ok (.iload 6, 2) := by decide +kernel
theorem d_N_blockers_47 : decode b_N_blockers 47 = .ok (.iadd, 1) := by decide +kernel
theorem d_N_blockers_48 : decode b_N_blockers 48 = .ok (.laload, 1) := by decide +kernel
theorem d_N_blockers_49 : decode b_N_blockers 49 = .ok (.aload_n 0, 1) := by decide +kernel
theorem d_N_blockers_50 : decode b_N_blockers 50 = .ok (.iload_n 1, 1) := by decide +kernel
theorem d_N_blockers_51 : decode b_N_blockers 51 = .ok (.invokevirtual 162, 3) := by decide +kernel
theorem d_N_blockers_54 : decode b_N_blockers 54 = .ok (.lsub, 1) := by decide +kernel
theorem d_N_blockers_55 : decode b_N_blockers 55 = .ok (.lstore 7, 2) := by decide +kernel
theorem d_N_blockers_57 : decode b_N_blockers 57 = .ok (.aload_n 0, 1) := by decide +kernel
theorem d_N_blockers_58 : decode b_N_blockers 58 = .ok (.getfield 7, 3) := by decide +kernel
theorem d_N_blockers_61 : decode b_N_blockers 61 = .ok (.bipush 16, 2) := by decide +kernel
theorem d_N_blockers_63 : decode b_N_blockers 63 = .ok (.iload_n 1, 1) := by decide +kernel
theorem d_N_blockers_64 : decode b_N_blockers 64 = .ok (.imul, 1) := by decide +kernel
theorem d_N_blockers_65 : decode b_N_blockers 65 = .ok (.iload 6, 2) := by decide +kernel
theorem d_N_blockers_67 : decode b_N_blockers 67 = .ok (.iadd, 1) := by decide +kernel
theorem d_N_blockers_68 : decode b_N_blockers 68 = .ok (.laload, 1) := by decide +kernel
theorem d_N_blockers_69 : decode b_N_blockers 69 = .ok (.aload_n 0, 1) := by decide +kernel
theorem d_N_blockers_70 : decode b_N_blockers 70 = .ok (.iload_n 1, 1) := by decide +kernel
theorem d_N_blockers_71 : decode b_N_blockers 71 = .ok (.invokevirtual 162, 3) := by decide +kernel
theorem d_N_blockers_74 : decode b_N_blockers 74 = .ok (.ladd, 1) := by decide +kernel
theorem d_N_blockers_75 : decode b_N_blockers 75 = .ok (.lstore 9, 2) := by decide +kernel
theorem d_N_blockers_77 : decode b_N_blockers 77 = .ok (.aload_n 0, 1) := by decide +kernel
theorem d_N_blockers_78 : decode b_N_blockers 78 = .ok (.bipush (-2), 2) := by decide +kernel
theorem d_N_blockers_80 : decode b_N_blockers 80 = .ok (.putfield 169, 3) := by decide +kernel
theorem d_N_blockers_83 : decode b_N_blockers 83 = .ok (.iconst 0, 1) := by decide +kernel
theorem d_N_blockers_84 : decode b_N_blockers 84 = .ok (.istore 11, 2) := by decide +kernel
theorem d_N_blockers_86 : decode b_N_blockers 86 = .ok (.iload 11, 2) := by decide +kernel
theorem d_N_blockers_88 : decode b_N_blockers 88 = .ok (.aload_n 0, 1) := by decide +kernel
theorem d_N_blockers_89 : decode b_N_blockers 89 = .ok (.getfield 73, 3) := by decide +kernel
theorem d_N_blockers_92 : decode b_N_blockers 92 = .ok (.if_icmp .ge 85, 3) := by decide +kernel
theorem d_N_blockers_95 : decode b_N_blockers 95 = .ok (.lload 7, 2) := by decide +kernel
theorem d_N_blockers_97 : decode b_N_blockers 97 = .ok (.lload 9, 2) := by decide +kernel
theorem d_N_blockers_99 : decode b_N_blockers 99 = .ok (.aload_n 0, 1) := by decide +kernel
theorem d_N_blockers_100 : decode b_N_blockers 100 = .ok (.getfield 23, 3) := by decide +kernel
theorem d_N_blockers_103 : decode b_N_blockers 103 = .ok (.iconst 4, 1) := by decide +kernel
theorem d_N_blockers_104 : decode b_N_blockers 104 = .ok (.iload 11, 2) := by decide +kernel
theorem d_N_blockers_106 : decode b_N_blockers 106 = .ok (.imul, 1) := by decide +kernel
theorem d_N_blockers_107 : decode b_N_blockers 107 = .ok (.iconst 2, 1) := by decide +kernel
theorem d_N_blockers_108 : decode b_N_blockers 108 = .ok (.iload 6, 2) := by decide +kernel
theorem d_N_blockers_110 : decode b_N_blockers 110 = .ok (.imul, 1) := by decide +kernel
theorem d_N_blockers_111 : decode b_N_blockers 111 = .ok (.iadd, 1) := by decide +kernel
theorem d_N_blockers_112 : decode b_N_blockers 112 = .ok (.laload, 1) := by decide +kernel
theorem d_N_blockers_113 : decode b_N_blockers 113 = .ok (.aload_n 0, 1) := by decide +kernel
theorem d_N_blockers_114 : decode b_N_blockers 114 = .ok (.getfield 23, 3) := by decide +kernel
theorem d_N_blockers_117 : decode b_N_blockers 117 = .ok (.iconst 4, 1) := by decide +kernel
theorem d_N_blockers_118 : decode b_N_blockers 118 = .ok (.iload 11, 2) := by decide +kernel
theorem d_N_blockers_120 : decode b_N_blockers 120 = .ok (.imul, 1) := by decide +kernel
theorem d_N_blockers_121 : decode b_N_blockers 121 = .ok (.iconst 2, 1) := by decide +kernel
theorem d_N_blockers_122 : decode b_N_blockers 122 = .ok (.iload 6, 2) := by decide +kernel
theorem d_N_blockers_124 : decode b_N_blockers 124 = .ok (.imul, 1) := by decide +kernel
theorem d_N_blockers_125 : decode b_N_blockers 125 = .ok (.iadd, 1) := by decide +kernel
theorem d_N_blockers_126 : decode b_N_blockers 126 = .ok (.iconst 1, 1) := by decide +kernel
theorem d_N_blockers_127 : decode b_N_blockers 127 = .ok (.iadd, 1) := by decide +kernel
theorem d_N_blockers_128 : decode b_N_blockers 128 = .ok (.laload, 1) := by decide +kernel
theorem d_N_blockers_129 : decode b_N_blockers 129 = .ok (.invokestatic 165, 3) := by decide +kernel
theorem d_N_blockers_132 : decode b_N_blockers 132 = .ok (.ifCond .eq 39, 3) := by decide +kernel
theorem d_N_blockers_135 : decode b_N_blockers 135 = .ok (.aload_n 0, 1) := by decide +kernel
theorem d_N_blockers_136 : decode b_N_blockers 136 = .ok (.iconst (-1), 1) := by decide +kernel
theorem d_N_blockers_137 : decode b_N_blockers 137 = .ok (.lload 4, 2) := by decide +kernel
theorem d_N_blockers_139 : decode b_N_blockers 139 = .ok (.iload_n 3, 1) := by decide +kernel
theorem d_N_blockers_140 : decode b_N_blockers 140 = .ok (.aload_n 0, 1) := by decide +kernel
theorem d_N_blockers_141 : decode b_N_blockers 141 = .ok (.getfield 23, 3) := by decide +kernel
theorem d_N_blockers_144 : decode b_N_blockers 144 = .ok (.iconst 4, 1) := by decide +kernel
theorem d_N_blockers_145 : decode b_N_blockers 145 = .ok (.iload 11, 2) := by decide +kernel
theorem d_N_blockers_147 : decode b_N_blockers 147 = .ok (.imul, 1) := by decide +kernel
theorem d_N_blockers_148 : decode b_N_blockers 148 = .ok (.iconst 2, 1) := by decide +kernel
theorem d_N_blockers_149 : decode b_N_blockers 149 = .ok (.iload_n 2, 1) := by decide +kernel
theorem d_N_blockers_150 : decode b_N_blockers 150 = .ok (.imul, 1) := by decide +kernel
theorem d_N_blockers_151 : decode b_N_blockers 151 = .ok (.iadd, 1) := by decide +kernel
theorem d_N_blockers_152 : decode b_N_blockers 152 = .ok (.laload, 1) := by decide +kernel
theorem d_N_blockers_153 : decode b_N_blockers 153 = .ok (.aload_n 0, 1) := by decide +kernel
theorem d_N_blockers_154 : decode b_N_blockers 154 = .ok (.getfield 23, 3) := by decide +kernel
theorem d_N_blockers_157 : decode b_N_blockers 157 = .ok (.iconst 4, 1) := by decide +kernel
theorem d_N_blockers_158 : decode b_N_blockers 158 = .ok (.iload 11, 2) := by decide +kernel
theorem d_N_blockers_160 : decode b_N_blockers 160 = .ok (.imul, 1) := by decide +kernel
theorem d_N_blockers_161 : decode b_N_blockers 161 = .ok (.iconst 2, 1) := by decide +kernel
theorem d_N_blockers_162 : decode b_N_blockers 162 = .ok (.iload_n 2, 1) := by decide +kernel
theorem d_N_blockers_163 : decode b_N_blockers 163 = .ok (.imul, 1) := by decide +kernel
theorem d_N_blockers_164 : decode b_N_blockers 164 = .ok (.iadd, 1) := by decide +kernel
theorem d_N_blockers_165 : decode b_N_blockers 165 = .ok (.iconst 1, 1) := by decide +kernel
theorem d_N_blockers_166 : decode b_N_blockers 166 = .ok (.iadd, 1) := by decide +kernel
theorem d_N_blockers_167 : decode b_N_blockers 167 = .ok (.laload, 1) := by decide +kernel
theorem d_N_blockers_168 : decode b_N_blockers 168 = .ok (.invokevirtual 175, 3) := by decide +kernel
theorem d_N_blockers_171 : decode b_N_blockers 171 = .ok (.iinc 11 1, 3) := by decide +kernel
theorem d_N_blockers_174 : decode b_N_blockers 174 = .ok (.goto (-88), 3) := by decide +kernel
theorem d_N_blockers_177 : decode b_N_blockers 177 = .ok (.aload_n 0, 1) := by decide +kernel
theorem d_N_blockers_178 : decode b_N_blockers 178 = .ok (.getfield 7, 3) := by decide +kernel
theorem d_N_blockers_181 : decode b_N_blockers 181 = .ok (.bipush 16, 2) := by decide +kernel
theorem d_N_blockers_183 : decode b_N_blockers 183 = .ok (.iload_n 1, 1) := by decide +kernel
theorem d_N_blockers_184 : decode b_N_blockers 184 = .ok (.imul, 1) := by decide +kernel
theorem d_N_blockers_185 : decode b_N_blockers 185 = .ok (.bipush 11, 2) := by decide +kernel
theorem d_N_blockers_187 : decode b_N_blockers 187 = .ok (.iadd, 1) := by decide +kernel
theorem d_N_blockers_188 : decode b_N_blockers 188 = .ok (.laload, 1) := by decide +kernel
theorem d_N_blockers_189 : decode b_N_blockers 189 = .ok (.invokestatic 113, 3) := by decide +kernel
theorem d_N_blockers_192 : decode b_N_blockers 192 = .ok (.iconst 1, 1) := by decide +kernel
theorem d_N_blockers_193 : decode b_N_blockers 193 = .ok (.isub, 1) := by decide +kernel
theorem d_N_blockers_194 : decode b_N_blockers 194 = .ok (.istore 11, 2) := by decide +kernel
theorem d_N_blockers_196 : decode b_N_blockers 196 = .ok (.iconst 0, 1) := by decide +kernel
theorem d_N_blockers_197 : decode b_N_blockers 197 = .ok (.istore 12, 2) := by decide +kernel
theorem d_N_blockers_199 : decode b_N_blockers 199 = .ok (.iload 12, 2) := by decide +kernel
theorem d_N_blockers_201 : decode b_N_blockers 201 = .ok (.bipush 12, 2) := by decide +kernel
theorem d_N_blockers_203 : decode b_N_blockers 203 = .ok (.if_icmp .ge 135, 3) := by decide +kernel
theorem d_N_blockers_206 : decode b_N_blockers 206 = .ok (.iload 12, 2) := by decide +kernel
theorem d_N_blockers_208 : decode b_N_blockers 208 = .ok (.iload_n 1, 1) := by decide +kernel
theorem d_N_blockers_209 : decode b_N_blockers 209 = .ok (.if_icmp .eq 123, 3) := by decide +kernel
theorem d_N_blockers_212 : decode b_N_blockers 212 = .ok (.aload_n 0, 1) := by decide +kernel
theorem d_N_blockers_213 : decode b_N_blockers 213 = .ok (.getfield 13, 3) := by decide +kernel
theorem d_N_blockers_216 : decode b_N_blockers 216 = .ok (.iload 12, 2) := by decide +kernel
theorem d_N_blockers_218 : decode b_N_blockers 218 = .ok (.baload, 1) := by decide +kernel
theorem d_N_blockers_219 : decode b_N_blockers 219 = .ok (.ifCond .eq 113, 3) := by decide +kernel
theorem d_N_blockers_222 : decode b_N_blockers 222 = .ok (.aload_n 0, 1) := by decide +kernel
theorem d_N_blockers_223 : decode b_N_blockers 223 = .ok (.getfield 7, 3) := by decide +kernel
theorem d_N_blockers_226 : decode b_N_blockers 226 = .ok (.bipush 16, 2) := by decide +kernel
theorem d_N_blockers_228 : decode b_N_blockers 228 = .ok (.iload 12, 2) := by decide +kernel
theorem d_N_blockers_230 : decode b_N_blockers 230 = .ok (.imul, 1) := by decide +kernel
theorem d_N_blockers_231 : decode b_N_blockers 231 = .ok (.iconst 5, 1) := by decide +kernel
theorem d_N_blockers_232 : decode b_N_blockers 232 = .ok (.iadd, 1) := by decide +kernel
theorem d_N_blockers_233 : decode b_N_blockers 233 = .ok (.laload, 1) := by decide +kernel
theorem d_N_blockers_234 : decode b_N_blockers 234 = .ok (.invokestatic 113, 3) := by decide +kernel
theorem d_N_blockers_237 : decode b_N_blockers 237 = .ok (.iconst 2, 1) := by decide +kernel
theorem d_N_blockers_238 : decode b_N_blockers 238 = .ok (.if_icmp .ne 94, 3) := by decide +kernel
theorem d_N_blockers_241 : decode b_N_blockers 241 = .ok (.iload 12, 2) := by decide +kernel
theorem d_N_blockers_243 : decode b_N_blockers 243 = .ok (.iload 11, 2) := by decide +kernel
theorem d_N_blockers_245 : decode b_N_blockers 245 = .ok (.if_icmp .eq 87, 3) := by decide +kernel
theorem d_N_blockers_248 : decode b_N_blockers 248 = .ok (.aload_n 0, 1) := by decide +kernel
theorem d_N_blockers_249 : decode b_N_blockers 249 = .ok (.getfield 7, 3) := by decide +kernel
theorem d_N_blockers_252 : decode b_N_blockers 252 = .ok (.bipush 16, 2) := by decide +kernel
theorem d_N_blockers_254 : decode b_N_blockers 254 = .ok (.iload 12, 2) := by decide +kernel
theorem d_N_blockers_256 : decode b_N_blockers 256 = .ok (.imul, 1) := by decide +kernel
theorem d_N_blockers_257 : decode b_N_blockers 257 = .ok (.bipush 11, 2) := by decide +kernel
theorem d_N_blockers_259 : decode b_N_blockers 259 = .ok (.iadd, 1) := by decide +kernel
theorem d_N_blockers_260 : decode b_N_blockers 260 = .ok (.laload, 1) := by decide +kernel
theorem d_N_blockers_261 : decode b_N_blockers 261 = .ok (.invokestatic 113, 3) := by decide +kernel
theorem d_N_blockers_264 : decode b_N_blockers 264 = .ok (.iconst 1, 1) := by decide +kernel
theorem d_N_blockers_265 : decode b_N_blockers 265 = .ok (.isub, 1) := by decide +kernel
theorem d_N_blockers_266 : decode b_N_blockers 266 = .ok (.iload_n 1, 1) := by decide +kernel
theorem d_N_blockers_267 : decode b_N_blockers 267 = .ok (.if_icmp .eq 65, 3) := by decide +kernel
theorem d_N_blockers_270 : decode b_N_blockers 270 = .ok (.aload_n 0, 1) := by decide +kernel
theorem d_N_blockers_271 : decode b_N_blockers 271 = .ok (.iload_n 1, 1) := by decide +kernel
theorem d_N_blockers_272 : decode b_N_blockers 272 = .ok (.iload 12, 2) := by decide +kernel
theorem d_N_blockers_274 : decode b_N_blockers 274 = .ok (.iload 6, 2) := by decide +kernel
theorem d_N_blockers_276 : decode b_N_blockers 276 = .ok (.invokevirtual 179, 3) := by decide +kernel
theorem d_N_blockers_279 : decode b_N_blockers 279 = .ok (.ifCond .ne 6, 3) := by decide +kernel
theorem d_N_blockers_282 : decode b_N_blockers 282 = .ok (.goto 50, 3) := by decide +kernel
theorem d_N_blockers_285 : decode b_N_blockers 285 = .ok (.aload_n 0, 1) := by decide +kernel
theorem d_N_blockers_286 : decode b_N_blockers 286 = .ok (.iload 12, 2) := by decide +kernel
theorem d_N_blockers_288 : decode b_N_blockers 288 = .ok (.lload 4, 2) := by decide +kernel
theorem d_N_blockers_290 : decode b_N_blockers 290 = .ok (.iload_n 3, 1) := by decide +kernel
theorem d_N_blockers_291 : decode b_N_blockers 291 = .ok (.aload_n 0, 1) := by decide +kernel
theorem d_N_blockers_292 : decode b_N_blockers 292 = .ok (.getfield 7, 3) := by decide +kernel
theorem d_N_blockers_295 : decode b_N_blockers 295 = .ok (.bipush 16, 2) := by decide +kernel
theorem d_N_blockers_297 : decode b_N_blockers 297 = .ok (.iload 12, 2) := by decide +kernel
theorem d_N_blockers_299 : decode b_N_blockers 299 = .ok (.imul, 1) := by decide +kernel
theorem d_N_blockers_300 : decode b_N_blockers 300 = .ok (.iload_n 2, 1) := by decide +kernel
theorem d_N_blockers_301 : decode b_N_blockers 301 = .ok (.iadd, 1) := by decide +kernel
theorem d_N_blockers_302 : decode b_N_blockers 302 = .ok (.laload, 1) := by decide +kernel
theorem d_N_blockers_303 : decode b_N_blockers 303 = .ok (.aload_n 0, 1) := by decide +kernel
theorem d_N_blockers_304 : decode b_N_blockers 304 = .ok (.iload 12, 2) := by decide +kernel
theorem d_N_blockers_306 : decode b_N_blockers 306 = .ok (.invokevirtual 162, 3) := by decide +kernel
theorem d_N_blockers_309 : decode b_N_blockers 309 = .ok (.lsub, 1) := by decide +kernel
theorem d_N_blockers_310 : decode b_N_blockers 310 = .ok (.aload_n 0, 1) := by decide +kernel
theorem d_N_blockers_311 : decode b_N_blockers 311 = .ok (.getfield 7, 3) := by decide +kernel
theorem d_N_blockers_314 : decode b_N_blockers 314 = .ok (.bipush 16, 2) := by decide +kernel
theorem d_N_blockers_316 : decode b_N_blockers 316 = .ok (.iload 12, 2) := by decide +kernel
theorem d_N_blockers_318 : decode b_N_blockers 318 = .ok (.imul, 1) := by decide +kernel
theorem d_N_blockers_319 : decode b_N_blockers 319 = .ok (.iload_n 2, 1) := by decide +kernel
theorem d_N_blockers_320 : decode b_N_blockers 320 = .ok (.iadd, 1) := by decide +kernel
theorem d_N_blockers_321 : decode b_N_blockers 321 = .ok (.laload, 1) := by decide +kernel
theorem d_N_blockers_322 : decode b_N_blockers 322 = .ok (.aload_n 0, 1) := by decide +kernel
theorem d_N_blockers_323 : decode b_N_blockers 323 = .ok (.iload 12, 2) := by decide +kernel
theorem d_N_blockers_325 : decode b_N_blockers 325 = .ok (.invokevirtual 162, 3) := by decide +kernel
theorem d_N_blockers_328 : decode b_N_blockers 328 = .ok (.ladd, 1) := by decide +kernel
theorem d_N_blockers_329 : decode b_N_blockers 329 = .ok (.invokevirtual 175, 3) := by decide +kernel
theorem d_N_blockers_332 : decode b_N_blockers 332 = .ok (.iinc 12 1, 3) := by decide +kernel
theorem d_N_blockers_335 : decode b_N_blockers 335 = .ok (.goto (-136), 3) := by decide +kernel
theorem d_N_blockers_338 : decode b_N_blockers 338 = .ok (.return_, 1) := by decide +kernel
def f_N_blockers_332 (k199 : Sm → Int32 → Int32 → Int32 → Int64 → Int32 → Int32 → Int32 → Option (Unit × Sm)) (g : Sm) (x1 : Int32) (x2 : Int32) (x3 : Int32) (x4 : Int64) (x6 : Int32) (x11 : Int32) (x12 : Int32) : Option (Unit × Sm) := (k199 g (x1) (x2) (x3) (x4) (x6) (x11) (x12 + 1))
def f_N_blockers_199  : Nat → Sm → Int32 → Int32 → Int32 → Int64 → Int32 → Int32 → Int32 → Option (Unit × Sm)
  | 0, _, _, _, _, _, _, _, _ => none
  | n + 1, g, x1, x2, x3, x4, x6, x11, x12 => (if 12 ≤ x12 then (some ((), g)) else (if x12 = x1 then (f_N_blockers_332 (fun g x1 x2 x3 x4 x6 x11 x12 => f_N_blockers_199  n g x1 x2 x3 x4 x6 x11 x12) g (x1) (x2) (x3) (x4) (x6) (x11) (x12)) else (qs_in (x12) 12 (if (g.1 2 x12.toNatClampNeg) = 0 then (f_N_blockers_332 (fun g x1 x2 x3 x4 x6 x11 x12 => f_N_blockers_199  n g x1 x2 x3 x4 x6 x11 x12) g (x1) (x2) (x3) (x4) (x6) (x11) (x12)) else (qs_in ((16 * x12) + 5) 192 (qs_pb (f_N_whole (g.2 1 ((16 * x12) + 5).toNatClampNeg)) fun r30 => (if r30 = 2 then (if x12 = x11 then (f_N_blockers_332 (fun g x1 x2 x3 x4 x6 x11 x12 => f_N_blockers_199  n g x1 x2 x3 x4 x6 x11 x12) g (x1) (x2) (x3) (x4) (x6) (x11) (x12)) else (qs_in ((16 * x12) + 11) 192 (qs_pb (f_N_whole (g.2 1 ((16 * x12) + 11).toNatClampNeg)) fun r34 => (if (r34 - 1) = x1 then (f_N_blockers_332 (fun g x1 x2 x3 x4 x6 x11 x12 => f_N_blockers_199  n g x1 x2 x3 x4 x6 x11 x12) g (x1) (x2) (x3) (x4) (x6) (x11) (x12)) else (qs_bn (f_N_meets g (x1) (x12) (x6)) fun r36 u37 => (if r36 = 0 then (f_N_blockers_332 (fun g x1 x2 x3 x4 x6 x11 x12 => f_N_blockers_199  n g x1 x2 x3 x4 x6 x11 x12) u37 (x1) (x2) (x3) (x4) (x6) (x11) (x12)) else (qs_in ((16 * x12) + x2) 192 (qs_bn (f_N_half u37 (x12)) fun r40 u41 => (qs_in ((16 * x12) + x2) 192 (qs_bn (f_N_half u41 (x12)) fun r43 u44 => (qs_bn (f_N_consider u44 (x12) (x4) (x3) ((u37.2 1 ((16 * x12) + x2).toNatClampNeg) - r40) ((u41.2 1 ((16 * x12) + x2).toNatClampNeg) + r43)) fun _ u46 => (f_N_blockers_332 (fun g x1 x2 x3 x4 x6 x11 x12 => f_N_blockers_199  n g x1 x2 x3 x4 x6 x11 x12) u46 (x1) (x2) (x3) (x4) (x6) (x11) (x12))))))))))))) else (f_N_blockers_332 (fun g x1 x2 x3 x4 x6 x11 x12 => f_N_blockers_199  n g x1 x2 x3 x4 x6 x11 x12) g (x1) (x2) (x3) (x4) (x6) (x11) (x12)))))))))
def f_N_blockers_171 (k86 : Sm → Int32 → Int32 → Int32 → Int64 → Int32 → Int64 → Int64 → Int32 → Option (Unit × Sm)) (g : Sm) (x1 : Int32) (x2 : Int32) (x3 : Int32) (x4 : Int64) (x6 : Int32) (x7 : Int64) (x9 : Int64) (x11 : Int32) : Option (Unit × Sm) := (k86 g (x1) (x2) (x3) (x4) (x6) (x7) (x9) (x11 + 1))
def f_N_blockers_86  : Nat → Sm → Int32 → Int32 → Int32 → Int64 → Int32 → Int64 → Int64 → Int32 → Option (Unit × Sm)
  | 0, _, _, _, _, _, _, _, _, _ => none
  | n + 1, g, x1, x2, x3, x4, x6, x7, x9, x11 => (if (g.1 21 0) ≤ x11 then (qs_in ((16 * x1) + 11) 192 (qs_pb (f_N_whole (g.2 1 ((16 * x1) + 11).toNatClampNeg)) fun r16 => (f_N_blockers_199 200 g (x1) (x2) (x3) (x4) (x6) (r16 - 1) (0)))) else (qs_in ((4 * x11) + (2 * x6)) 24 (qs_in (((4 * x11) + (2 * x6)) + 1) 24 (qs_pb (f_N_overlap (x7) (x9) (g.2 5 ((4 * x11) + (2 * x6)).toNatClampNeg) (g.2 5 (((4 * x11) + (2 * x6)) + 1).toNatClampNeg)) fun r19 => (if r19 = 0 then (f_N_blockers_171 (fun g x1 x2 x3 x4 x6 x7 x9 x11 => f_N_blockers_86  n g x1 x2 x3 x4 x6 x7 x9 x11) g (x1) (x2) (x3) (x4) (x6) (x7) (x9) (x11)) else (qs_in ((4 * x11) + (2 * x2)) 24 (qs_in (((4 * x11) + (2 * x2)) + 1) 24 (qs_bn (f_N_consider g ((-1)) (x4) (x3) (g.2 5 ((4 * x11) + (2 * x2)).toNatClampNeg) (g.2 5 (((4 * x11) + (2 * x2)) + 1).toNatClampNeg)) fun _ u24 => (f_N_blockers_171 (fun g x1 x2 x3 x4 x6 x7 x9 x11 => f_N_blockers_86  n g x1 x2 x3 x4 x6 x7 x9 x11) u24 (x1) (x2) (x3) (x4) (x6) (x7) (x9) (x11))))))))))
def f_N_blockers_29  (g : Sm) (x1 : Int32) (x2 : Int32) (x3 : Int32) (y0 : Int64) (y1 : Int64) : Option (Unit × Sm) := (qs_in ((16 * x1) + (1 - x2)) 192 (qs_bn (f_N_half g (x1)) fun r8 u9 => (qs_in ((16 * x1) + (1 - x2)) 192 (qs_bn (f_N_half u9 (x1)) fun r11 u12 => (qs_st (qm_i u12 27 ((-2))) fun u13 => (f_N_blockers_86 200 u13 (x1) (x2) (x3) (y0 + y1) (1 - x2) ((g.2 1 ((16 * x1) + (1 - x2)).toNatClampNeg) - r8) ((u9.2 1 ((16 * x1) + (1 - x2)).toNatClampNeg) + r11) (0)))))))
def f_N_blockers (g : Sm) (a1 : Int32) (a2 : Int32) (a3 : Int32) : Option (Unit × Sm) := (qs_in ((16 * a1) + a2) 192 (if a3 = 0 then (qs_bn (f_N_half g (a1)) fun r3 u4 => (f_N_blockers_29 u4 (a1) (a2) (a3) (g.2 1 ((16 * a1) + a2).toNatClampNeg) (-r3))) else (qs_bn (f_N_half g (a1)) fun r5 u6 => (f_N_blockers_29 u6 (a1) (a2) (a3) (g.2 1 ((16 * a1) + a2).toNatClampNeg) (r5)))))
set_option maxHeartbeats 4000000 in
set_option maxRecDepth 100000 in
theorem c_N_blockers (l : Launch) (dC : Nat → ClassId) (dI : Nat → Nat → Nat) (h : Nat → Nat) (c : Nat → ClassId) (sz : Nat) (g : Sm) (a1 : Int32) (a2 : Int32) (a3 : Int32) (u0 : Sm) (hF : f_N_blockers g a1 a2 a3 = some ((), u0)) : Met l y_N_blockers (qs_ws y_N_blockers b_N_blockers 13 none) ({ frames := 2, cells := 0, slots := 0, locals := 54 } : Room) (va_Pc ([.ref (h 0), .int a1, .int a2, .int a3] : List Value) (fun U => U.heap.size = sz ∧ va_P (dC, dI) vwCl (ms_W h c g) U.heap ∧ va_K (dC, dI) vwCl (ms_T c) U ∧ va_D (fun _ => True) (ms_W h c g) ∧ qs_N U)) (va_Qv (fun (u : Sm) => u = u0) (ms_at dC dI h c (va_A (ms_W h c g) sz)) (va_A (ms_W h c g) sz)) 0 0 (va_A (ms_W h c g) sz) := by
  refine Met.ofW (cc := b_N_blockers) (maxL := 13) (ret := none) (by decide +kernel) rfl ?_
  intro p e s m args below meth cd s₁ B hml hv
  obtain ⟨rfl, hsz, hP, hK, hD0, hNs⟩ := hv
  have hx := B.exec
  have hb := B.bytes
  have hr := B.returns
  have hts := atoms_spec (ws := (qs_ws y_N_blockers b_N_blockers 13 none)) B.pre
  have hg : ∀ w ∈ qs_gt, w.before _ s = true := fun w h => hts w (List.mem_cons_of_mem _ h)
  have hown : s.vm.findClass R_N = some m.cls := findClass_of_methodNamed B.named
  have hlocks := B.notSynchronized
  subst hsz
  have hD := hD0.self (sz := s.heap.size)
  generalize hAe : va_A (ms_W h c g) s.heap.size = A at hD ⊢
  have hA : ∀ q : Nat, s.heap.size ≤ q → A q := fun q h => by rw [← hAe]; exact Or.inr h
  have hS : va_S A s.heap s.heap [] := va_S.rf
  have kb_332 : ∀ (k199 : Sm → Int32 → Int32 → Int32 → Int64 → Int32 → Int32 → Int32 → Option (Unit × Sm)), (∀ (g : Sm) (x1 : Int32) (x2 : Int32) (x3 : Int32) (x4 : Int64) (x6 : Int32) (x11 : Int32) (x12 : Int32) (H : Heap) (locs : List Loc) (ls : Array Slot), va_P (dC, dI) vwCl (ms_W h c g) H → va_D A (ms_W h c g) → va_S A s.heap H locs → lv_has ls 13 [(0, .ref (h 0)), (1, .int (x1)), (2, .int (x2)), (3, .int (x3)), (4, .long (x4)), (6, .int (x6)), (11, .int (x11)), (12, .int (x12))] → k199 g x1 x2 x3 x4 x6 x11 x12 = some ((), u0) → W p l e (headSpec (qs_ws y_N_blockers b_N_blockers 13 none) ({ frames := 2, cells := 0, slots := 0, locals := 54 } : Room)).room s m ([.ref (h 0), .int a1, .int a2, .int a3] : List Value).toArray below meth cd H locs 0 0 (MQ below (va_Qv (fun (u : Sm) => u = u0) (ms_at dC dI h c A) A) ([.ref (h 0), .int a1, .int a2, .int a3] : List Value).toArray s 0 0 A) (F0 m 199 ls [])) → ∀ (g : Sm) (x1 : Int32) (x2 : Int32) (x3 : Int32) (x4 : Int64) (x6 : Int32) (x11 : Int32) (x12 : Int32) (H : Heap) (locs : List Loc) (ls : Array Slot), va_P (dC, dI) vwCl (ms_W h c g) H → va_D A (ms_W h c g) → va_S A s.heap H locs → lv_has ls 13 [(0, .ref (h 0)), (1, .int (x1)), (2, .int (x2)), (3, .int (x3)), (4, .long (x4)), (6, .int (x6)), (11, .int (x11)), (12, .int (x12))] → f_N_blockers_332 k199  g x1 x2 x3 x4 x6 x11 x12 = some ((), u0) → W p l e (headSpec (qs_ws y_N_blockers b_N_blockers 13 none) ({ frames := 2, cells := 0, slots := 0, locals := 54 } : Room)).room s m ([.ref (h 0), .int a1, .int a2, .int a3] : List Value).toArray below meth cd H locs 0 0 (MQ below (va_Qv (fun (u : Sm) => u = u0) (ms_at dC dI h c A) A) ([.ref (h 0), .int a1, .int a2, .int a3] : List Value).toArray s 0 0 A) (F0 m 332 ls []) := by
    intro k199 hk199
    intro g x1 x2 x3 x4 x6 x11 x12 H locs ls hP hD hS hl hF
    unfold f_N_blockers_332 at hF
    refine lv_iinc (v := x12 + 1) (lv' := [(12, .int (x12 + 1)), (0, .ref (h 0)), (1, .int (x1)), (2, .int (x2)), (3, .int (x3)), (4, .long (x4)), (6, .int (x6)), (11, .int (x11))]) hx hb d_N_blockers_332 hl (k := 7) rfl (by rfl) (by decide) rfl (fun ls hl => ?_)
    refine lv_goto (tgt := 199) hx hb d_N_blockers_335 (by decide) ?_
    exact hk199 g (x1) (x2) (x3) (x4) (x6) (x11) (x12 + 1) H locs ls hP hD hS (lv_sub hl [1, 2, 3, 4, 5, 6, 7, 0] rfl) hF
  have kb_199 : ∀ n : Nat, ∀ (g : Sm) (x1 : Int32) (x2 : Int32) (x3 : Int32) (x4 : Int64) (x6 : Int32) (x11 : Int32) (x12 : Int32) (H : Heap) (locs : List Loc) (ls : Array Slot), va_P (dC, dI) vwCl (ms_W h c g) H → va_D A (ms_W h c g) → va_S A s.heap H locs → lv_has ls 13 [(0, .ref (h 0)), (1, .int (x1)), (2, .int (x2)), (3, .int (x3)), (4, .long (x4)), (6, .int (x6)), (11, .int (x11)), (12, .int (x12))] → f_N_blockers_199 n g x1 x2 x3 x4 x6 x11 x12 = some ((), u0) → W p l e (headSpec (qs_ws y_N_blockers b_N_blockers 13 none) ({ frames := 2, cells := 0, slots := 0, locals := 54 } : Room)).room s m ([.ref (h 0), .int a1, .int a2, .int a3] : List Value).toArray below meth cd H locs 0 0 (MQ below (va_Qv (fun (u : Sm) => u = u0) (ms_at dC dI h c A) A) ([.ref (h 0), .int a1, .int a2, .int a3] : List Value).toArray s 0 0 A) (F0 m 199 ls []) := by
    intro n
    induction n with
    | zero =>
      intro g x1 x2 x3 x4 x6 x11 x12 H locs ls hP hD hS hl hF
      exact nomatch (show (none : Option (Unit × Sm)) = some _ from hF)
    | succ n ih =>
      intro g x1 x2 x3 x4 x6 x11 x12 H locs ls hP hD hS hl hF
      rw [f_N_blockers_199] at hF
      refine lv_iload hx hb d_N_blockers_199 (lv_at hl 7 rfl) ?_
      refine lv_bipush (v := 12) hx hb d_N_blockers_201 (by decide) ?_
      refine lv_icmp_ge (tgt := 338) hx hb d_N_blockers_203 (by decide) (fun c25 => ?_) (fun c25 => ?_)
      · have hF := qs_pos c25 hF
        obtain ⟨h8, h9⟩ := qs_ret hF
        exact W.vret hx hb hr (fun t ht hW => ⟨⟨g, rfl, h9, by rw [ht]; exact hP, va_K.moved hW.alike hK, hD⟩, hS.F ht⟩) hS.2.2 d_N_blockers_338
      · have hF := qs_neg c25 hF
        refine lv_iload hx hb d_N_blockers_206 (lv_at hl 7 rfl) ?_
        refine lv_iload_n hx hb d_N_blockers_208 rfl (lv_at hl 1 rfl) ?_
        refine lv_icmp_eq (tgt := 332) hx hb d_N_blockers_209 (by decide) (fun c26 => ?_) (fun c26 => ?_)
        · have hF := qs_pos c26 hF
          exact kb_332 _ ih g (x1) (x2) (x3) (x4) (x6) (x11) (x12) H locs ls hP hD hS (lv_sub hl [0, 1, 2, 3, 4, 5, 6, 7] rfl) hF
        · have hF := qs_neg c26 hF
          refine lv_aload_n hx hb d_N_blockers_212 rfl (lv_at hl 0 rfl) ?_
          refine va_get (D := (dC, dI)) (ci := 7) (v := .ref (h 2)) (C := R_N) (T := T_N) (N := 22) hx hb hg in_N hown hK hP 0 rfl rfl 2 (by decide) (hg _ t_620) (fun _ h9 => h9) rfl d_N_blockers_213 ?_
          refine lv_iload hx hb d_N_blockers_216 (lv_at hl 7 rfl) ?_
          obtain ⟨c27, hF⟩ := qs_in_some hF
          refine va_zald hx hb hK hP 2 1 rfl rfl c27 d_N_blockers_218 ?_
          refine lv_if_eq (tgt := 332) hx hb d_N_blockers_219 (by decide) (fun c28 => ?_) (fun c28 => ?_)
          · have hF := qs_pos c28 hF
            exact kb_332 _ ih g (x1) (x2) (x3) (x4) (x6) (x11) (x12) H locs ls hP hD hS (lv_sub hl [0, 1, 2, 3, 4, 5, 6, 7] rfl) hF
          · have hF := qs_neg c28 hF
            refine lv_aload_n hx hb d_N_blockers_222 rfl (lv_at hl 0 rfl) ?_
            refine va_get (D := (dC, dI)) (ci := 7) (v := .ref (h 1)) (C := R_N) (T := T_N) (N := 22) hx hb hg in_N hown hK hP 0 rfl rfl 1 (by decide) (hg _ t_619) (fun _ h9 => h9) rfl d_N_blockers_223 ?_
            refine lv_bipush (v := 16) hx hb d_N_blockers_226 (by decide) ?_
            refine lv_iload hx hb d_N_blockers_228 (lv_at hl 7 rfl) ?_
            refine lv_imul hx hb d_N_blockers_230 ?_
            refine lv_iconst (v := 5) hx hb d_N_blockers_231 (by decide) ?_
            refine lv_iadd hx hb d_N_blockers_232 ?_
            obtain ⟨c29, hF⟩ := qs_in_some hF
            refine va_lald hx hb hK hP 1 0 rfl rfl c29 d_N_blockers_233 ?_
            obtain ⟨r30, hX, hF⟩ := qs_pb_some hF
            refine qs_psi (va_runS (own := "QuakeServerModel") (As := [.long (g.2 1 ((16 * x12) + 5).toNatClampNeg)]) (rest := []) ⟨hx, hb, hml, hown, hg⟩ (c_N_whole l H.size (g.2 1 ((16 * x12) + 5).toNatClampNeg) r30 hX) (va_cwS 1 hg (qs_gS t_773 t_774 t_8 t_775) rfl rfl rfl (by decide +kernel) ⟨Nat.le_of_ble_eq_true rfl, Nat.le_of_ble_eq_true rfl⟩) ⟨qs_blind0, fun U hU hW => ⟨rfl, by rw [hU], hNs.warm hW⟩⟩ rfl rfl hl.1 rfl (lv_room (Nat.le_of_ble_eq_true rfl)) d_N_blockers_234 ⟨Nat.le_of_ble_eq_true rfl, Nat.le_of_ble_eq_true rfl⟩) hP hD hS hA (fun H locs hP hS => ?_)
            refine lv_iconst (v := 2) hx hb d_N_blockers_237 (by decide) ?_
            refine lv_icmp_ne (tgt := 332) hx hb d_N_blockers_238 (by decide) (fun c31 => ?_) (fun c31 => ?_)
            · have hF := qs_neg c31 hF
              exact kb_332 _ ih g (x1) (x2) (x3) (x4) (x6) (x11) (x12) H locs ls hP hD hS (lv_sub hl [0, 1, 2, 3, 4, 5, 6, 7] rfl) hF
            · have hF := qs_pos c31 hF
              refine lv_iload hx hb d_N_blockers_241 (lv_at hl 7 rfl) ?_
              refine lv_iload hx hb d_N_blockers_243 (lv_at hl 6 rfl) ?_
              refine lv_icmp_eq (tgt := 332) hx hb d_N_blockers_245 (by decide) (fun c32 => ?_) (fun c32 => ?_)
              · have hF := qs_pos c32 hF
                exact kb_332 _ ih g (x1) (x2) (x3) (x4) (x6) (x11) (x12) H locs ls hP hD hS (lv_sub hl [0, 1, 2, 3, 4, 5, 6, 7] rfl) hF
              · have hF := qs_neg c32 hF
                refine lv_aload_n hx hb d_N_blockers_248 rfl (lv_at hl 0 rfl) ?_
                refine va_get (D := (dC, dI)) (ci := 7) (v := .ref (h 1)) (C := R_N) (T := T_N) (N := 22) hx hb hg in_N hown hK hP 0 rfl rfl 1 (by decide) (hg _ t_619) (fun _ h9 => h9) rfl d_N_blockers_249 ?_
                refine lv_bipush (v := 16) hx hb d_N_blockers_252 (by decide) ?_
                refine lv_iload hx hb d_N_blockers_254 (lv_at hl 7 rfl) ?_
                refine lv_imul hx hb d_N_blockers_256 ?_
                refine lv_bipush (v := 11) hx hb d_N_blockers_257 (by decide) ?_
                refine lv_iadd hx hb d_N_blockers_259 ?_
                obtain ⟨c33, hF⟩ := qs_in_some hF
                refine va_lald hx hb hK hP 1 0 rfl rfl c33 d_N_blockers_260 ?_
                obtain ⟨r34, hX, hF⟩ := qs_pb_some hF
                refine qs_psi (va_runS (own := "QuakeServerModel") (As := [.long (g.2 1 ((16 * x12) + 11).toNatClampNeg)]) (rest := []) ⟨hx, hb, hml, hown, hg⟩ (c_N_whole l H.size (g.2 1 ((16 * x12) + 11).toNatClampNeg) r34 hX) (va_cwS 1 hg (qs_gS t_773 t_774 t_8 t_775) rfl rfl rfl (by decide +kernel) ⟨Nat.le_of_ble_eq_true rfl, Nat.le_of_ble_eq_true rfl⟩) ⟨qs_blind0, fun U hU hW => ⟨rfl, by rw [hU], hNs.warm hW⟩⟩ rfl rfl hl.1 rfl (lv_room (Nat.le_of_ble_eq_true rfl)) d_N_blockers_261 ⟨Nat.le_of_ble_eq_true rfl, Nat.le_of_ble_eq_true rfl⟩) hP hD hS hA (fun H locs hP hS => ?_)
                refine lv_iconst (v := 1) hx hb d_N_blockers_264 (by decide) ?_
                refine lv_isub hx hb d_N_blockers_265 ?_
                refine lv_iload_n hx hb d_N_blockers_266 rfl (lv_at hl 1 rfl) ?_
                refine lv_icmp_eq (tgt := 332) hx hb d_N_blockers_267 (by decide) (fun c35 => ?_) (fun c35 => ?_)
                · have hF := qs_pos c35 hF
                  exact kb_332 _ ih g (x1) (x2) (x3) (x4) (x6) (x11) (x12) H locs ls hP hD hS (lv_sub hl [0, 1, 2, 3, 4, 5, 6, 7] rfl) hF
                · have hF := qs_neg c35 hF
                  refine lv_aload_n hx hb d_N_blockers_270 rfl (lv_at hl 0 rfl) ?_
                  refine lv_iload_n hx hb d_N_blockers_271 rfl (lv_at hl 1 rfl) ?_
                  refine lv_iload hx hb d_N_blockers_272 (lv_at hl 7 rfl) ?_
                  refine lv_iload hx hb d_N_blockers_274 (lv_at hl 5 rfl) ?_
                  obtain ⟨r36, u37, hX, hF⟩ := qs_bn_some hF
                  refine qs_ci (Wd := ms_W h c) (isC := [0, 1, 2, 3, 4, 5, 6, 7, 8, 9, 10, 11, 12]) (va_runV (own := "QuakeServerModel") (C := "QuakeServerModel") (As := [.int (x1), .int (x12), .int (x6)]) (rest := []) ⟨hx, hb, hml, hown, hg⟩ (c_N_meets l dC dI h c H.size g (x1) (x12) (x6) r36 u37 hX) (cwV 3 hg (qs_gV t_828 t_830 tp_32 t_8 t_831) rfl rfl rfl (by decide +kernel) ⟨Nat.le_of_ble_eq_true rfl, Nat.le_of_ble_eq_true rfl⟩) ⟨qs_blind, va_recv hK hP (ci := 7) (q0 := 0) rfl rfl, fun U hU hW => ⟨rfl, by rw [hU], by rw [hU]; exact hP, va_K.moved hW.alike hK, hD.weaken (fun _ _ _ _ => trivial), hNs.warm hW⟩⟩ rfl rfl hl.1 rfl (lv_room (Nat.le_of_ble_eq_true rfl)) d_N_blockers_276 ⟨Nat.le_of_ble_eq_true rfl, Nat.le_of_ble_eq_true rfl⟩) rfl hP hD hS hA (fun H locs hP hD hS => ?_)
                  refine lv_if_ne (tgt := 285) hx hb d_N_blockers_279 (by decide) (fun c38 => ?_) (fun c38 => ?_)
                  · have hF := qs_neg c38 hF
                    refine lv_aload_n hx hb d_N_blockers_285 rfl (lv_at hl 0 rfl) ?_
                    refine lv_iload hx hb d_N_blockers_286 (lv_at hl 7 rfl) ?_
                    refine lv_lload hx hb d_N_blockers_288 (lv_at hl 4 rfl) ?_
                    refine lv_iload_n hx hb d_N_blockers_290 rfl (lv_at hl 3 rfl) ?_
                    refine lv_aload_n hx hb d_N_blockers_291 rfl (lv_at hl 0 rfl) ?_
                    refine va_get (D := (dC, dI)) (ci := 7) (v := .ref (h 1)) (C := R_N) (T := T_N) (N := 22) hx hb hg in_N hown hK hP 0 rfl rfl 1 (by decide) (hg _ t_619) (fun _ h9 => h9) rfl d_N_blockers_292 ?_
                    refine lv_bipush (v := 16) hx hb d_N_blockers_295 (by decide) ?_
                    refine lv_iload hx hb d_N_blockers_297 (lv_at hl 7 rfl) ?_
                    refine lv_imul hx hb d_N_blockers_299 ?_
                    refine lv_iload_n hx hb d_N_blockers_300 rfl (lv_at hl 2 rfl) ?_
                    refine lv_iadd hx hb d_N_blockers_301 ?_
                    obtain ⟨c39, hF⟩ := qs_in_some hF
                    refine va_lald hx hb hK hP 1 0 rfl rfl c39 d_N_blockers_302 ?_
                    refine lv_aload_n hx hb d_N_blockers_303 rfl (lv_at hl 0 rfl) ?_
                    refine lv_iload hx hb d_N_blockers_304 (lv_at hl 7 rfl) ?_
                    obtain ⟨r40, u41, hX, hF⟩ := qs_bn_some hF
                    refine qs_cl (Wd := ms_W h c) (isC := [0, 1, 2, 3, 4, 5, 6, 7, 8, 9, 10, 11, 12]) (va_runV (own := "QuakeServerModel") (C := "QuakeServerModel") (As := [.int (x12)]) (rest := [.long (u37.2 1 ((16 * x12) + x2).toNatClampNeg), .int (x3), .long (x4), .int (x12), .ref (h 0)]) ⟨hx, hb, hml, hown, hg⟩ (c_N_half l dC dI h c H.size u37 (x12) r40 u41 hX) (cwV 1 hg (qs_gV t_816 t_818 tp_30 t_8 t_819) rfl rfl rfl (by decide +kernel) ⟨Nat.le_of_ble_eq_true rfl, Nat.le_of_ble_eq_true rfl⟩) ⟨qs_blind, va_recv hK hP (ci := 7) (q0 := 0) rfl rfl, fun U hU hW => ⟨rfl, by rw [hU], by rw [hU]; exact hP, va_K.moved hW.alike hK, hD.weaken (fun _ _ _ _ => trivial), hNs.warm hW⟩⟩ rfl rfl hl.1 rfl (lv_room (Nat.le_of_ble_eq_true rfl)) d_N_blockers_306 ⟨Nat.le_of_ble_eq_true rfl, Nat.le_of_ble_eq_true rfl⟩) rfl hP hD hS hA (fun H locs hP hD hS => ?_)
                    refine lv_lsub hx hb d_N_blockers_309 ?_
                    refine lv_aload_n hx hb d_N_blockers_310 rfl (lv_at hl 0 rfl) ?_
                    refine va_get (D := (dC, dI)) (ci := 7) (v := .ref (h 1)) (C := R_N) (T := T_N) (N := 22) hx hb hg in_N hown hK hP 0 rfl rfl 1 (by decide) (hg _ t_619) (fun _ h9 => h9) rfl d_N_blockers_311 ?_
                    refine lv_bipush (v := 16) hx hb d_N_blockers_314 (by decide) ?_
                    refine lv_iload hx hb d_N_blockers_316 (lv_at hl 7 rfl) ?_
                    refine lv_imul hx hb d_N_blockers_318 ?_
                    refine lv_iload_n hx hb d_N_blockers_319 rfl (lv_at hl 2 rfl) ?_
                    refine lv_iadd hx hb d_N_blockers_320 ?_
                    obtain ⟨c42, hF⟩ := qs_in_some hF
                    refine va_lald hx hb hK hP 1 0 rfl rfl c42 d_N_blockers_321 ?_
                    refine lv_aload_n hx hb d_N_blockers_322 rfl (lv_at hl 0 rfl) ?_
                    refine lv_iload hx hb d_N_blockers_323 (lv_at hl 7 rfl) ?_
                    obtain ⟨r43, u44, hX, hF⟩ := qs_bn_some hF
                    refine qs_cl (Wd := ms_W h c) (isC := [0, 1, 2, 3, 4, 5, 6, 7, 8, 9, 10, 11, 12]) (qs_runV16 (own := "QuakeServerModel") (C := "QuakeServerModel") (As := [.int (x12)]) (rest := [.long (u41.2 1 ((16 * x12) + x2).toNatClampNeg), .long ((u37.2 1 ((16 * x12) + x2).toNatClampNeg) - r40), .int (x3), .long (x4), .int (x12), .ref (h 0)]) ⟨hx, hb, hml, hown, hg⟩ (c_N_half l dC dI h c H.size u41 (x12) r43 u44 hX) (cwV 1 hg (qs_gV t_816 t_818 tp_30 t_8 t_819) rfl rfl rfl (by decide +kernel) ⟨Nat.le_of_ble_eq_true rfl, Nat.le_of_ble_eq_true rfl⟩) (Nat.le_of_ble_eq_true rfl) ⟨qs_blind, va_recv hK hP (ci := 7) (q0 := 0) rfl rfl, fun U hU hW => ⟨rfl, by rw [hU], by rw [hU]; exact hP, va_K.moved hW.alike hK, hD.weaken (fun _ _ _ _ => trivial), hNs.warm hW⟩⟩ rfl rfl hl.1 rfl (qs_room16 (Nat.le_of_ble_eq_true rfl)) d_N_blockers_325 ⟨Nat.le_of_ble_eq_true rfl, Nat.le_of_ble_eq_true rfl⟩) rfl hP hD hS hA (fun H locs hP hD hS => ?_)
                    refine lv_ladd hx hb d_N_blockers_328 ?_
                    obtain ⟨r45, u46, hX, hF⟩ := qs_bn_some hF
                    refine qs_cv (Wd := ms_W h c) (isC := [0, 1, 2, 3, 4, 5, 6, 7, 8, 9, 10, 11, 12]) (va_runV (own := "QuakeServerModel") (C := "QuakeServerModel") (As := [.int (x12), .long (x4), .int (x3), .long ((u37.2 1 ((16 * x12) + x2).toNatClampNeg) - r40), .long ((u41.2 1 ((16 * x12) + x2).toNatClampNeg) + r43)]) (rest := []) ⟨hx, hb, hml, hown, hg⟩ (c_N_consider l dC dI h c H.size u44 (x12) (x4) (x3) ((u37.2 1 ((16 * x12) + x2).toNatClampNeg) - r40) ((u41.2 1 ((16 * x12) + x2).toNatClampNeg) + r43)  u46 hX) (cwV 5 hg (qs_gV t_824 t_826 tp_31 t_8 t_827) rfl rfl rfl (by decide +kernel) ⟨Nat.le_of_ble_eq_true rfl, Nat.le_of_ble_eq_true rfl⟩) ⟨qs_blind, va_recv hK hP (ci := 7) (q0 := 0) rfl rfl, fun U hU hW => ⟨rfl, by rw [hU], by rw [hU]; exact hP, va_K.moved hW.alike hK, hD.weaken (fun _ _ _ _ => trivial), hNs.warm hW⟩⟩ rfl rfl hl.1 rfl (lv_room (Nat.le_of_ble_eq_true rfl)) d_N_blockers_329 ⟨Nat.le_of_ble_eq_true rfl, Nat.le_of_ble_eq_true rfl⟩) rfl hP hD hS hA (fun H locs hP hD hS => ?_)
                    exact kb_332 _ ih u46 (x1) (x2) (x3) (x4) (x6) (x11) (x12) H locs ls hP hD hS (lv_sub hl [0, 1, 2, 3, 4, 5, 6, 7] rfl) hF
                  · have hF := qs_pos c38 hF
                    refine lv_goto (tgt := 332) hx hb d_N_blockers_282 (by decide) ?_
                    exact kb_332 _ ih u37 (x1) (x2) (x3) (x4) (x6) (x11) (x12) H locs ls hP hD hS (lv_sub hl [0, 1, 2, 3, 4, 5, 6, 7] rfl) hF
  have kb_171 : ∀ (k86 : Sm → Int32 → Int32 → Int32 → Int64 → Int32 → Int64 → Int64 → Int32 → Option (Unit × Sm)), (∀ (g : Sm) (x1 : Int32) (x2 : Int32) (x3 : Int32) (x4 : Int64) (x6 : Int32) (x7 : Int64) (x9 : Int64) (x11 : Int32) (H : Heap) (locs : List Loc) (ls : Array Slot), va_P (dC, dI) vwCl (ms_W h c g) H → va_D A (ms_W h c g) → va_S A s.heap H locs → lv_has ls 13 [(0, .ref (h 0)), (1, .int (x1)), (2, .int (x2)), (3, .int (x3)), (4, .long (x4)), (6, .int (x6)), (7, .long (x7)), (9, .long (x9)), (11, .int (x11))] → k86 g x1 x2 x3 x4 x6 x7 x9 x11 = some ((), u0) → W p l e (headSpec (qs_ws y_N_blockers b_N_blockers 13 none) ({ frames := 2, cells := 0, slots := 0, locals := 54 } : Room)).room s m ([.ref (h 0), .int a1, .int a2, .int a3] : List Value).toArray below meth cd H locs 0 0 (MQ below (va_Qv (fun (u : Sm) => u = u0) (ms_at dC dI h c A) A) ([.ref (h 0), .int a1, .int a2, .int a3] : List Value).toArray s 0 0 A) (F0 m 86 ls [])) → ∀ (g : Sm) (x1 : Int32) (x2 : Int32) (x3 : Int32) (x4 : Int64) (x6 : Int32) (x7 : Int64) (x9 : Int64) (x11 : Int32) (H : Heap) (locs : List Loc) (ls : Array Slot), va_P (dC, dI) vwCl (ms_W h c g) H → va_D A (ms_W h c g) → va_S A s.heap H locs → lv_has ls 13 [(0, .ref (h 0)), (1, .int (x1)), (2, .int (x2)), (3, .int (x3)), (4, .long (x4)), (6, .int (x6)), (7, .long (x7)), (9, .long (x9)), (11, .int (x11))] → f_N_blockers_171 k86  g x1 x2 x3 x4 x6 x7 x9 x11 = some ((), u0) → W p l e (headSpec (qs_ws y_N_blockers b_N_blockers 13 none) ({ frames := 2, cells := 0, slots := 0, locals := 54 } : Room)).room s m ([.ref (h 0), .int a1, .int a2, .int a3] : List Value).toArray below meth cd H locs 0 0 (MQ below (va_Qv (fun (u : Sm) => u = u0) (ms_at dC dI h c A) A) ([.ref (h 0), .int a1, .int a2, .int a3] : List Value).toArray s 0 0 A) (F0 m 171 ls []) := by
    intro k86 hk86
    intro g x1 x2 x3 x4 x6 x7 x9 x11 H locs ls hP hD hS hl hF
    unfold f_N_blockers_171 at hF
    refine lv_iinc (v := x11 + 1) (lv' := [(11, .int (x11 + 1)), (0, .ref (h 0)), (1, .int (x1)), (2, .int (x2)), (3, .int (x3)), (4, .long (x4)), (6, .int (x6)), (7, .long (x7)), (9, .long (x9))]) hx hb d_N_blockers_171 hl (k := 8) rfl (by rfl) (by decide) rfl (fun ls hl => ?_)
    refine lv_goto (tgt := 86) hx hb d_N_blockers_174 (by decide) ?_
    exact hk86 g (x1) (x2) (x3) (x4) (x6) (x7) (x9) (x11 + 1) H locs ls hP hD hS (lv_sub hl [1, 2, 3, 4, 5, 6, 7, 8, 0] rfl) hF
  have kb_86 : ∀ n : Nat, ∀ (g : Sm) (x1 : Int32) (x2 : Int32) (x3 : Int32) (x4 : Int64) (x6 : Int32) (x7 : Int64) (x9 : Int64) (x11 : Int32) (H : Heap) (locs : List Loc) (ls : Array Slot), va_P (dC, dI) vwCl (ms_W h c g) H → va_D A (ms_W h c g) → va_S A s.heap H locs → lv_has ls 13 [(0, .ref (h 0)), (1, .int (x1)), (2, .int (x2)), (3, .int (x3)), (4, .long (x4)), (6, .int (x6)), (7, .long (x7)), (9, .long (x9)), (11, .int (x11))] → f_N_blockers_86 n g x1 x2 x3 x4 x6 x7 x9 x11 = some ((), u0) → W p l e (headSpec (qs_ws y_N_blockers b_N_blockers 13 none) ({ frames := 2, cells := 0, slots := 0, locals := 54 } : Room)).room s m ([.ref (h 0), .int a1, .int a2, .int a3] : List Value).toArray below meth cd H locs 0 0 (MQ below (va_Qv (fun (u : Sm) => u = u0) (ms_at dC dI h c A) A) ([.ref (h 0), .int a1, .int a2, .int a3] : List Value).toArray s 0 0 A) (F0 m 86 ls []) := by
    intro n
    induction n with
    | zero =>
      intro g x1 x2 x3 x4 x6 x7 x9 x11 H locs ls hP hD hS hl hF
      exact nomatch (show (none : Option (Unit × Sm)) = some _ from hF)
    | succ n ih =>
      intro g x1 x2 x3 x4 x6 x7 x9 x11 H locs ls hP hD hS hl hF
      rw [f_N_blockers_86] at hF
      refine lv_iload hx hb d_N_blockers_86 (lv_at hl 8 rfl) ?_
      refine lv_aload_n hx hb d_N_blockers_88 rfl (lv_at hl 0 rfl) ?_
      refine va_get (D := (dC, dI)) (ci := 7) (v := .int (g.1 21 0)) (C := R_N) (T := T_N) (N := 22) hx hb hg in_N hown hK hP 0 rfl rfl 6 (by decide) (hg _ t_624) (fun _ h9 => h9) rfl d_N_blockers_89 ?_
      refine lv_icmp_ge (tgt := 177) hx hb d_N_blockers_92 (by decide) (fun c14 => ?_) (fun c14 => ?_)
      · have hF := qs_pos c14 hF
        refine lv_aload_n hx hb d_N_blockers_177 rfl (lv_at hl 0 rfl) ?_
        refine va_get (D := (dC, dI)) (ci := 7) (v := .ref (h 1)) (C := R_N) (T := T_N) (N := 22) hx hb hg in_N hown hK hP 0 rfl rfl 1 (by decide) (hg _ t_619) (fun _ h9 => h9) rfl d_N_blockers_178 ?_
        refine lv_bipush (v := 16) hx hb d_N_blockers_181 (by decide) ?_
        refine lv_iload_n hx hb d_N_blockers_183 rfl (lv_at hl 1 rfl) ?_
        refine lv_imul hx hb d_N_blockers_184 ?_
        refine lv_bipush (v := 11) hx hb d_N_blockers_185 (by decide) ?_
        refine lv_iadd hx hb d_N_blockers_187 ?_
        obtain ⟨c15, hF⟩ := qs_in_some hF
        refine va_lald hx hb hK hP 1 0 rfl rfl c15 d_N_blockers_188 ?_
        obtain ⟨r16, hX, hF⟩ := qs_pb_some hF
        refine qs_psi (va_runS (own := "QuakeServerModel") (As := [.long (g.2 1 ((16 * x1) + 11).toNatClampNeg)]) (rest := []) ⟨hx, hb, hml, hown, hg⟩ (c_N_whole l H.size (g.2 1 ((16 * x1) + 11).toNatClampNeg) r16 hX) (va_cwS 1 hg (qs_gS t_773 t_774 t_8 t_775) rfl rfl rfl (by decide +kernel) ⟨Nat.le_of_ble_eq_true rfl, Nat.le_of_ble_eq_true rfl⟩) ⟨qs_blind0, fun U hU hW => ⟨rfl, by rw [hU], hNs.warm hW⟩⟩ rfl rfl hl.1 rfl (lv_room (Nat.le_of_ble_eq_true rfl)) d_N_blockers_189 ⟨Nat.le_of_ble_eq_true rfl, Nat.le_of_ble_eq_true rfl⟩) hP hD hS hA (fun H locs hP hS => ?_)
        refine lv_iconst (v := 1) hx hb d_N_blockers_192 (by decide) ?_
        refine lv_isub hx hb d_N_blockers_193 ?_
        refine lv_istore (lv' := [(11, .int (r16 - 1)), (0, .ref (h 0)), (1, .int (x1)), (2, .int (x2)), (3, .int (x3)), (4, .long (x4)), (6, .int (x6)), (7, .long (x7)), (9, .long (x9))]) hx hb d_N_blockers_194 hl (by decide) rfl (fun ls hl => ?_)
        refine lv_iconst (v := 0) hx hb d_N_blockers_196 (by decide) ?_
        refine lv_istore (lv' := [(12, .int (0)), (11, .int (r16 - 1)), (0, .ref (h 0)), (1, .int (x1)), (2, .int (x2)), (3, .int (x3)), (4, .long (x4)), (6, .int (x6)), (7, .long (x7)), (9, .long (x9))]) hx hb d_N_blockers_197 hl (by decide) rfl (fun ls hl => ?_)
        exact kb_199 200 g (x1) (x2) (x3) (x4) (x6) (r16 - 1) (0) H locs ls hP hD hS (lv_sub hl [2, 3, 4, 5, 6, 7, 1, 0] rfl) hF
      · have hF := qs_neg c14 hF
        refine lv_lload hx hb d_N_blockers_95 (lv_at hl 6 rfl) ?_
        refine lv_lload hx hb d_N_blockers_97 (lv_at hl 7 rfl) ?_
        refine lv_aload_n hx hb d_N_blockers_99 rfl (lv_at hl 0 rfl) ?_
        refine va_get (D := (dC, dI)) (ci := 7) (v := .ref (h 5)) (C := R_N) (T := T_N) (N := 22) hx hb hg in_N hown hK hP 0 rfl rfl 5 (by decide) (hg _ t_623) (fun _ h9 => h9) rfl d_N_blockers_100 ?_
        refine lv_iconst (v := 4) hx hb d_N_blockers_103 (by decide) ?_
        refine lv_iload hx hb d_N_blockers_104 (lv_at hl 8 rfl) ?_
        refine lv_imul hx hb d_N_blockers_106 ?_
        refine lv_iconst (v := 2) hx hb d_N_blockers_107 (by decide) ?_
        refine lv_iload hx hb d_N_blockers_108 (lv_at hl 5 rfl) ?_
        refine lv_imul hx hb d_N_blockers_110 ?_
        refine lv_iadd hx hb d_N_blockers_111 ?_
        obtain ⟨c17, hF⟩ := qs_in_some hF
        refine va_lald hx hb hK hP 5 4 rfl rfl c17 d_N_blockers_112 ?_
        refine lv_aload_n hx hb d_N_blockers_113 rfl (lv_at hl 0 rfl) ?_
        refine va_get (D := (dC, dI)) (ci := 7) (v := .ref (h 5)) (C := R_N) (T := T_N) (N := 22) hx hb hg in_N hown hK hP 0 rfl rfl 5 (by decide) (hg _ t_623) (fun _ h9 => h9) rfl d_N_blockers_114 ?_
        refine lv_iconst (v := 4) hx hb d_N_blockers_117 (by decide) ?_
        refine lv_iload hx hb d_N_blockers_118 (lv_at hl 8 rfl) ?_
        refine lv_imul hx hb d_N_blockers_120 ?_
        refine lv_iconst (v := 2) hx hb d_N_blockers_121 (by decide) ?_
        refine lv_iload hx hb d_N_blockers_122 (lv_at hl 5 rfl) ?_
        refine lv_imul hx hb d_N_blockers_124 ?_
        refine lv_iadd hx hb d_N_blockers_125 ?_
        refine lv_iconst (v := 1) hx hb d_N_blockers_126 (by decide) ?_
        refine lv_iadd hx hb d_N_blockers_127 ?_
        obtain ⟨c18, hF⟩ := qs_in_some hF
        refine va_lald hx hb hK hP 5 4 rfl rfl c18 d_N_blockers_128 ?_
        obtain ⟨r19, hX, hF⟩ := qs_pb_some hF
        refine qs_psi (va_runS (own := "QuakeServerModel") (As := [.long (x7), .long (x9), .long (g.2 5 ((4 * x11) + (2 * x6)).toNatClampNeg), .long (g.2 5 (((4 * x11) + (2 * x6)) + 1).toNatClampNeg)]) (rest := []) ⟨hx, hb, hml, hown, hg⟩ (c_N_overlap l H.size (x7) (x9) (g.2 5 ((4 * x11) + (2 * x6)).toNatClampNeg) (g.2 5 (((4 * x11) + (2 * x6)) + 1).toNatClampNeg) r19 hX) (va_cwS 4 hg (qs_gS t_821 t_822 t_8 t_823) rfl rfl rfl (by decide +kernel) ⟨Nat.le_of_ble_eq_true rfl, Nat.le_of_ble_eq_true rfl⟩) ⟨qs_blind0, fun U hU hW => ⟨rfl, by rw [hU], hNs.warm hW⟩⟩ rfl rfl hl.1 rfl (lv_room (Nat.le_of_ble_eq_true rfl)) d_N_blockers_129 ⟨Nat.le_of_ble_eq_true rfl, Nat.le_of_ble_eq_true rfl⟩) hP hD hS hA (fun H locs hP hS => ?_)
        refine lv_if_eq (tgt := 171) hx hb d_N_blockers_132 (by decide) (fun c20 => ?_) (fun c20 => ?_)
        · have hF := qs_pos c20 hF
          exact kb_171 _ ih g (x1) (x2) (x3) (x4) (x6) (x7) (x9) (x11) H locs ls hP hD hS (lv_sub hl [0, 1, 2, 3, 4, 5, 6, 7, 8] rfl) hF
        · have hF := qs_neg c20 hF
          refine lv_aload_n hx hb d_N_blockers_135 rfl (lv_at hl 0 rfl) ?_
          refine lv_iconst (v := (-1)) hx hb d_N_blockers_136 (by decide) ?_
          refine lv_lload hx hb d_N_blockers_137 (lv_at hl 4 rfl) ?_
          refine lv_iload_n hx hb d_N_blockers_139 rfl (lv_at hl 3 rfl) ?_
          refine lv_aload_n hx hb d_N_blockers_140 rfl (lv_at hl 0 rfl) ?_
          refine va_get (D := (dC, dI)) (ci := 7) (v := .ref (h 5)) (C := R_N) (T := T_N) (N := 22) hx hb hg in_N hown hK hP 0 rfl rfl 5 (by decide) (hg _ t_623) (fun _ h9 => h9) rfl d_N_blockers_141 ?_
          refine lv_iconst (v := 4) hx hb d_N_blockers_144 (by decide) ?_
          refine lv_iload hx hb d_N_blockers_145 (lv_at hl 8 rfl) ?_
          refine lv_imul hx hb d_N_blockers_147 ?_
          refine lv_iconst (v := 2) hx hb d_N_blockers_148 (by decide) ?_
          refine lv_iload_n hx hb d_N_blockers_149 rfl (lv_at hl 2 rfl) ?_
          refine lv_imul hx hb d_N_blockers_150 ?_
          refine lv_iadd hx hb d_N_blockers_151 ?_
          obtain ⟨c21, hF⟩ := qs_in_some hF
          refine va_lald hx hb hK hP 5 4 rfl rfl c21 d_N_blockers_152 ?_
          refine lv_aload_n hx hb d_N_blockers_153 rfl (lv_at hl 0 rfl) ?_
          refine va_get (D := (dC, dI)) (ci := 7) (v := .ref (h 5)) (C := R_N) (T := T_N) (N := 22) hx hb hg in_N hown hK hP 0 rfl rfl 5 (by decide) (hg _ t_623) (fun _ h9 => h9) rfl d_N_blockers_154 ?_
          refine lv_iconst (v := 4) hx hb d_N_blockers_157 (by decide) ?_
          refine lv_iload hx hb d_N_blockers_158 (lv_at hl 8 rfl) ?_
          refine lv_imul hx hb d_N_blockers_160 ?_
          refine lv_iconst (v := 2) hx hb d_N_blockers_161 (by decide) ?_
          refine lv_iload_n hx hb d_N_blockers_162 rfl (lv_at hl 2 rfl) ?_
          refine lv_imul hx hb d_N_blockers_163 ?_
          refine lv_iadd hx hb d_N_blockers_164 ?_
          refine lv_iconst (v := 1) hx hb d_N_blockers_165 (by decide) ?_
          refine lv_iadd hx hb d_N_blockers_166 ?_
          obtain ⟨c22, hF⟩ := qs_in_some hF
          refine va_lald hx hb hK hP 5 4 rfl rfl c22 d_N_blockers_167 ?_
          obtain ⟨r23, u24, hX, hF⟩ := qs_bn_some hF
          refine qs_cv (Wd := ms_W h c) (isC := [0, 1, 2, 3, 4, 5, 6, 7, 8, 9, 10, 11, 12]) (va_runV (own := "QuakeServerModel") (C := "QuakeServerModel") (As := [.int ((-1)), .long (x4), .int (x3), .long (g.2 5 ((4 * x11) + (2 * x2)).toNatClampNeg), .long (g.2 5 (((4 * x11) + (2 * x2)) + 1).toNatClampNeg)]) (rest := []) ⟨hx, hb, hml, hown, hg⟩ (c_N_consider l dC dI h c H.size g ((-1)) (x4) (x3) (g.2 5 ((4 * x11) + (2 * x2)).toNatClampNeg) (g.2 5 (((4 * x11) + (2 * x2)) + 1).toNatClampNeg)  u24 hX) (cwV 5 hg (qs_gV t_824 t_826 tp_31 t_8 t_827) rfl rfl rfl (by decide +kernel) ⟨Nat.le_of_ble_eq_true rfl, Nat.le_of_ble_eq_true rfl⟩) ⟨qs_blind, va_recv hK hP (ci := 7) (q0 := 0) rfl rfl, fun U hU hW => ⟨rfl, by rw [hU], by rw [hU]; exact hP, va_K.moved hW.alike hK, hD.weaken (fun _ _ _ _ => trivial), hNs.warm hW⟩⟩ rfl rfl hl.1 rfl (lv_room (Nat.le_of_ble_eq_true rfl)) d_N_blockers_168 ⟨Nat.le_of_ble_eq_true rfl, Nat.le_of_ble_eq_true rfl⟩) rfl hP hD hS hA (fun H locs hP hD hS => ?_)
          exact kb_171 _ ih u24 (x1) (x2) (x3) (x4) (x6) (x7) (x9) (x11) H locs ls hP hD hS (lv_sub hl [0, 1, 2, 3, 4, 5, 6, 7, 8] rfl) hF
  have kb_29 : ∀ (g : Sm) (x1 : Int32) (x2 : Int32) (x3 : Int32) (y0 : Int64) (y1 : Int64) (H : Heap) (locs : List Loc) (ls : Array Slot), va_P (dC, dI) vwCl (ms_W h c g) H → va_D A (ms_W h c g) → va_S A s.heap H locs → lv_has ls 13 [(0, .ref (h 0)), (1, .int (x1)), (2, .int (x2)), (3, .int (x3))] → f_N_blockers_29  g x1 x2 x3 y0 y1 = some ((), u0) → W p l e (headSpec (qs_ws y_N_blockers b_N_blockers 13 none) ({ frames := 2, cells := 0, slots := 0, locals := 54 } : Room)).room s m ([.ref (h 0), .int a1, .int a2, .int a3] : List Value).toArray below meth cd H locs 0 0 (MQ below (va_Qv (fun (u : Sm) => u = u0) (ms_at dC dI h c A) A) ([.ref (h 0), .int a1, .int a2, .int a3] : List Value).toArray s 0 0 A) (F0 m 29 ls [.long (y1), .long (y0)]) := by
    intro g x1 x2 x3 y0 y1 H locs ls hP hD hS hl hF
    unfold f_N_blockers_29 at hF
    refine lv_ladd hx hb d_N_blockers_29 ?_
    refine lv_lstore (lv' := [(4, .long (y0 + y1)), (0, .ref (h 0)), (1, .int (x1)), (2, .int (x2)), (3, .int (x3))]) hx hb d_N_blockers_30 hl (by decide) rfl (fun ls hl => ?_)
    refine lv_iconst (v := 1) hx hb d_N_blockers_32 (by decide) ?_
    refine lv_iload_n hx hb d_N_blockers_33 rfl (lv_at hl 3 rfl) ?_
    refine lv_isub hx hb d_N_blockers_34 ?_
    refine lv_istore (lv' := [(6, .int (1 - x2)), (4, .long (y0 + y1)), (0, .ref (h 0)), (1, .int (x1)), (2, .int (x2)), (3, .int (x3))]) hx hb d_N_blockers_35 hl (by decide) rfl (fun ls hl => ?_)
    refine lv_aload_n hx hb d_N_blockers_37 rfl (lv_at hl 2 rfl) ?_
    refine va_get (D := (dC, dI)) (ci := 7) (v := .ref (h 1)) (C := R_N) (T := T_N) (N := 22) hx hb hg in_N hown hK hP 0 rfl rfl 1 (by decide) (hg _ t_619) (fun _ h9 => h9) rfl d_N_blockers_38 ?_
    refine lv_bipush (v := 16) hx hb d_N_blockers_41 (by decide) ?_
    refine lv_iload_n hx hb d_N_blockers_43 rfl (lv_at hl 3 rfl) ?_
    refine lv_imul hx hb d_N_blockers_44 ?_
    refine lv_iload hx hb d_N_blockers_45 (lv_at hl 0 rfl) ?_
    refine lv_iadd hx hb d_N_blockers_47 ?_
    obtain ⟨c7, hF⟩ := qs_in_some hF
    refine va_lald hx hb hK hP 1 0 rfl rfl c7 d_N_blockers_48 ?_
    refine lv_aload_n hx hb d_N_blockers_49 rfl (lv_at hl 2 rfl) ?_
    refine lv_iload_n hx hb d_N_blockers_50 rfl (lv_at hl 3 rfl) ?_
    obtain ⟨r8, u9, hX, hF⟩ := qs_bn_some hF
    refine qs_cl (Wd := ms_W h c) (isC := [0, 1, 2, 3, 4, 5, 6, 7, 8, 9, 10, 11, 12]) (va_runV (own := "QuakeServerModel") (C := "QuakeServerModel") (As := [.int (x1)]) (rest := [.long (g.2 1 ((16 * x1) + (1 - x2)).toNatClampNeg)]) ⟨hx, hb, hml, hown, hg⟩ (c_N_half l dC dI h c H.size g (x1) r8 u9 hX) (cwV 1 hg (qs_gV t_816 t_818 tp_30 t_8 t_819) rfl rfl rfl (by decide +kernel) ⟨Nat.le_of_ble_eq_true rfl, Nat.le_of_ble_eq_true rfl⟩) ⟨qs_blind, va_recv hK hP (ci := 7) (q0 := 0) rfl rfl, fun U hU hW => ⟨rfl, by rw [hU], by rw [hU]; exact hP, va_K.moved hW.alike hK, hD.weaken (fun _ _ _ _ => trivial), hNs.warm hW⟩⟩ rfl rfl hl.1 rfl (lv_room (Nat.le_of_ble_eq_true rfl)) d_N_blockers_51 ⟨Nat.le_of_ble_eq_true rfl, Nat.le_of_ble_eq_true rfl⟩) rfl hP hD hS hA (fun H locs hP hD hS => ?_)
    refine lv_lsub hx hb d_N_blockers_54 ?_
    refine lv_lstore (lv' := [(7, .long ((g.2 1 ((16 * x1) + (1 - x2)).toNatClampNeg) - r8)), (6, .int (1 - x2)), (4, .long (y0 + y1)), (0, .ref (h 0)), (1, .int (x1)), (2, .int (x2)), (3, .int (x3))]) hx hb d_N_blockers_55 hl (by decide) rfl (fun ls hl => ?_)
    refine lv_aload_n hx hb d_N_blockers_57 rfl (lv_at hl 3 rfl) ?_
    refine va_get (D := (dC, dI)) (ci := 7) (v := .ref (h 1)) (C := R_N) (T := T_N) (N := 22) hx hb hg in_N hown hK hP 0 rfl rfl 1 (by decide) (hg _ t_619) (fun _ h9 => h9) rfl d_N_blockers_58 ?_
    refine lv_bipush (v := 16) hx hb d_N_blockers_61 (by decide) ?_
    refine lv_iload_n hx hb d_N_blockers_63 rfl (lv_at hl 4 rfl) ?_
    refine lv_imul hx hb d_N_blockers_64 ?_
    refine lv_iload hx hb d_N_blockers_65 (lv_at hl 1 rfl) ?_
    refine lv_iadd hx hb d_N_blockers_67 ?_
    obtain ⟨c10, hF⟩ := qs_in_some hF
    refine va_lald hx hb hK hP 1 0 rfl rfl c10 d_N_blockers_68 ?_
    refine lv_aload_n hx hb d_N_blockers_69 rfl (lv_at hl 3 rfl) ?_
    refine lv_iload_n hx hb d_N_blockers_70 rfl (lv_at hl 4 rfl) ?_
    obtain ⟨r11, u12, hX, hF⟩ := qs_bn_some hF
    refine qs_cl (Wd := ms_W h c) (isC := [0, 1, 2, 3, 4, 5, 6, 7, 8, 9, 10, 11, 12]) (va_runV (own := "QuakeServerModel") (C := "QuakeServerModel") (As := [.int (x1)]) (rest := [.long (u9.2 1 ((16 * x1) + (1 - x2)).toNatClampNeg)]) ⟨hx, hb, hml, hown, hg⟩ (c_N_half l dC dI h c H.size u9 (x1) r11 u12 hX) (cwV 1 hg (qs_gV t_816 t_818 tp_30 t_8 t_819) rfl rfl rfl (by decide +kernel) ⟨Nat.le_of_ble_eq_true rfl, Nat.le_of_ble_eq_true rfl⟩) ⟨qs_blind, va_recv hK hP (ci := 7) (q0 := 0) rfl rfl, fun U hU hW => ⟨rfl, by rw [hU], by rw [hU]; exact hP, va_K.moved hW.alike hK, hD.weaken (fun _ _ _ _ => trivial), hNs.warm hW⟩⟩ rfl rfl hl.1 rfl (lv_room (Nat.le_of_ble_eq_true rfl)) d_N_blockers_71 ⟨Nat.le_of_ble_eq_true rfl, Nat.le_of_ble_eq_true rfl⟩) rfl hP hD hS hA (fun H locs hP hD hS => ?_)
    refine lv_ladd hx hb d_N_blockers_74 ?_
    refine lv_lstore (lv' := [(9, .long ((u9.2 1 ((16 * x1) + (1 - x2)).toNatClampNeg) + r11)), (7, .long ((g.2 1 ((16 * x1) + (1 - x2)).toNatClampNeg) - r8)), (6, .int (1 - x2)), (4, .long (y0 + y1)), (0, .ref (h 0)), (1, .int (x1)), (2, .int (x2)), (3, .int (x3))]) hx hb d_N_blockers_75 hl (by decide) rfl (fun ls hl => ?_)
    refine lv_aload_n hx hb d_N_blockers_77 rfl (lv_at hl 4 rfl) ?_
    refine lv_bipush (v := (-2)) hx hb d_N_blockers_78 (by decide) ?_
    refine va_put (D := (dC, dI)) (ci := 7) (v := .int ((-2))) (ty := .int) (C := R_N) (T := T_N) (N := 22) hx hb hg in_N ty_N ty_N_ok nm_N hown hK hP hD hS 0 rfl rfl 19 (by decide) (hg _ t_637) (fun _ h9 => h9) rfl (by decide +kernel) rfl rfl (Nat.le_of_ble_eq_true rfl) d_N_blockers_80 (fun H locs hP hD hS => ?_)
    obtain ⟨u13, hu13, hF⟩ := qs_st_some hF
    have hP : va_P (dC, dI) vwCl (ms_W h c u13) H := by rw [hu13]; exact hP
    have hD : va_D A (ms_W h c u13) := by rw [hu13]; exact hD
    clear hu13
    refine lv_iconst (v := 0) hx hb d_N_blockers_83 (by decide) ?_
    refine lv_istore (lv' := [(11, .int (0)), (9, .long ((u9.2 1 ((16 * x1) + (1 - x2)).toNatClampNeg) + r11)), (7, .long ((g.2 1 ((16 * x1) + (1 - x2)).toNatClampNeg) - r8)), (6, .int (1 - x2)), (4, .long (y0 + y1)), (0, .ref (h 0)), (1, .int (x1)), (2, .int (x2)), (3, .int (x3))]) hx hb d_N_blockers_84 hl (by decide) rfl (fun ls hl => ?_)
    exact kb_86 200 u13 (x1) (x2) (x3) (y0 + y1) (1 - x2) ((g.2 1 ((16 * x1) + (1 - x2)).toNatClampNeg) - r8) ((u9.2 1 ((16 * x1) + (1 - x2)).toNatClampNeg) + r11) (0) H locs ls hP hD hS (lv_sub hl [5, 6, 7, 8, 4, 3, 2, 1, 0] rfl) hF
  have hl := lv_entry ([.ref (h 0), .int a1, .int a2, .int a3] : List Value) (n := 13) (Nat.le_of_ble_eq_true rfl)
  rw [lg_entry_eq]
  generalize (lg_sl ([.ref (h 0), .int a1, .int a2, .int a3] : List Value) ++ List.replicate (13 - (lg_sl ([.ref (h 0), .int a1, .int a2, .int a3] : List Value)).length) Slot.unset).toArray = ls at hl ⊢
  have hl : lv_has ls 13 [(0, .ref (h 0)), (1, .int (a1)), (2, .int (a2)), (3, .int (a3))] := hl
  unfold f_N_blockers at hF
  obtain ⟨H, hHe⟩ : ∃ H, H = s.heap := ⟨_, rfl⟩
  obtain ⟨locs, hLe⟩ : ∃ L : List Loc, L = [] := ⟨_, rfl⟩
  rw [← hHe] at hP ⊢
  rw [← hLe]
  have hS : va_S A s.heap H locs := by rw [hHe, hLe]; exact hS
  refine lv_aload_n hx hb d_N_blockers_0 rfl (lv_at hl 0 rfl) ?_
  refine va_get (D := (dC, dI)) (ci := 7) (v := .ref (h 1)) (C := R_N) (T := T_N) (N := 22) hx hb hg in_N hown hK hP 0 rfl rfl 1 (by decide) (hg _ t_619) (fun _ h9 => h9) rfl d_N_blockers_1 ?_
  refine lv_bipush (v := 16) hx hb d_N_blockers_4 (by decide) ?_
  refine lv_iload_n hx hb d_N_blockers_6 rfl (lv_at hl 1 rfl) ?_
  refine lv_imul hx hb d_N_blockers_7 ?_
  refine lv_iload_n hx hb d_N_blockers_8 rfl (lv_at hl 2 rfl) ?_
  refine lv_iadd hx hb d_N_blockers_9 ?_
  obtain ⟨c1, hF⟩ := qs_in_some hF
  refine va_lald hx hb hK hP 1 0 rfl rfl c1 d_N_blockers_10 ?_
  refine lv_iload_n hx hb d_N_blockers_11 rfl (lv_at hl 3 rfl) ?_
  refine lv_if_eq (tgt := 23) hx hb d_N_blockers_12 (by decide) (fun c2 => ?_) (fun c2 => ?_)
  · have hF := qs_pos c2 hF
    refine lv_aload_n hx hb d_N_blockers_23 rfl (lv_at hl 0 rfl) ?_
    refine lv_iload_n hx hb d_N_blockers_24 rfl (lv_at hl 1 rfl) ?_
    obtain ⟨r3, u4, hX, hF⟩ := qs_bn_some hF
    refine qs_cl (Wd := ms_W h c) (isC := [0, 1, 2, 3, 4, 5, 6, 7, 8, 9, 10, 11, 12]) (va_runV (own := "QuakeServerModel") (C := "QuakeServerModel") (As := [.int (a1)]) (rest := [.long (g.2 1 ((16 * a1) + a2).toNatClampNeg)]) ⟨hx, hb, hml, hown, hg⟩ (c_N_half l dC dI h c H.size g (a1) r3 u4 hX) (cwV 1 hg (qs_gV t_816 t_818 tp_30 t_8 t_819) rfl rfl rfl (by decide +kernel) ⟨Nat.le_of_ble_eq_true rfl, Nat.le_of_ble_eq_true rfl⟩) ⟨qs_blind, va_recv hK hP (ci := 7) (q0 := 0) rfl rfl, fun U hU hW => ⟨rfl, by rw [hU], by rw [hU]; exact hP, va_K.moved hW.alike hK, hD.weaken (fun _ _ _ _ => trivial), hNs.warm hW⟩⟩ rfl rfl hl.1 rfl (lv_room (Nat.le_of_ble_eq_true rfl)) d_N_blockers_25 ⟨Nat.le_of_ble_eq_true rfl, Nat.le_of_ble_eq_true rfl⟩) rfl hP hD hS hA (fun H locs hP hD hS => ?_)
    refine lv_lneg hx hb d_N_blockers_28 ?_
    exact kb_29 u4 (a1) (a2) (a3) (g.2 1 ((16 * a1) + a2).toNatClampNeg) (-r3) H locs ls hP hD hS (lv_sub hl [0, 1, 2, 3] rfl) hF
  · have hF := qs_neg c2 hF
    refine lv_aload_n hx hb d_N_blockers_15 rfl (lv_at hl 0 rfl) ?_
    refine lv_iload_n hx hb d_N_blockers_16 rfl (lv_at hl 1 rfl) ?_
    obtain ⟨r5, u6, hX, hF⟩ := qs_bn_some hF
    refine qs_cl (Wd := ms_W h c) (isC := [0, 1, 2, 3, 4, 5, 6, 7, 8, 9, 10, 11, 12]) (va_runV (own := "QuakeServerModel") (C := "QuakeServerModel") (As := [.int (a1)]) (rest := [.long (g.2 1 ((16 * a1) + a2).toNatClampNeg)]) ⟨hx, hb, hml, hown, hg⟩ (c_N_half l dC dI h c H.size g (a1) r5 u6 hX) (cwV 1 hg (qs_gV t_816 t_818 tp_30 t_8 t_819) rfl rfl rfl (by decide +kernel) ⟨Nat.le_of_ble_eq_true rfl, Nat.le_of_ble_eq_true rfl⟩) ⟨qs_blind, va_recv hK hP (ci := 7) (q0 := 0) rfl rfl, fun U hU hW => ⟨rfl, by rw [hU], by rw [hU]; exact hP, va_K.moved hW.alike hK, hD.weaken (fun _ _ _ _ => trivial), hNs.warm hW⟩⟩ rfl rfl hl.1 rfl (lv_room (Nat.le_of_ble_eq_true rfl)) d_N_blockers_17 ⟨Nat.le_of_ble_eq_true rfl, Nat.le_of_ble_eq_true rfl⟩) rfl hP hD hS hA (fun H locs hP hD hS => ?_)
    refine lv_goto (tgt := 29) hx hb d_N_blockers_20 (by decide) ?_
    exact kb_29 u6 (a1) (a2) (a3) (g.2 1 ((16 * a1) + a2).toNatClampNeg) (r5) H locs ls hP hD hS (lv_sub hl [0, 1, 2, 3] rfl) hF
