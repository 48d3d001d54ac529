theorem d_N_changed_0 : decode b_N_changed 0 = .ok (.iload_n 2, 1) := by decide +kernel
theorem d_N_changed_1 : decode b_N_changed 1 = .ok (.bipush 15, 2) := by decide +kernel
theorem d_N_changed_3 : decode b_N_changed 3 = .ok (.if_icmp .ne 24, 3) := by decide +kernel
theorem d_N_changed_6 : decode b_N_changed 6 = .ok (.aload_n 0, 1) := by decide +kernel
theorem d_N_changed_7 : decode b_N_changed 7 = .ok (.getfield 13, 3) := by decide +kernel
theorem d_N_changed_10 : decode b_N_changed 10 = .ok (.iload_n 1, 1) := by decide +kernel
theorem d_N_changed_11 : decode b_N_changed 11 = .ok (.baload, 1) := by decide +kernel
theorem d_N_changed_12 : decode b_N_changed 12 = .ok (.aload_n 0, 1) := by decide +kernel
theorem d_N_changed_13 : decode b_N_changed 13 = .ok (.getfield 20, 3) := by decide +kernel
theorem d_N_changed_16 : decode b_N_changed 16 = .ok (.iload_n 1, 1) := by decide +kernel
theorem d_N_changed_17 : decode b_N_changed 17 = .ok (.baload, 1) := by decide +kernel
theorem d_N_changed_18 : decode b_N_changed 18 = .ok (.if_icmp .eq 7, 3) := by decide +kernel
theorem d_N_changed_21 : decode b_N_changed 21 = .ok (.iconst 1, 1) := by decide +kernel
theorem d_N_changed_22 : decode b_N_changed 22 = .ok (.goto 4, 3) := by decide +kernel
theorem d_N_changed_25 : decode b_N_changed 25 = .ok (.iconst 0, 1) := by decide +kernel
theorem d_N_changed_26 : decode b_N_changed 26 = .ok (.ireturn, 1) := by decide +kernel
theorem d_N_changed_27 : decode b_N_changed 27 = .ok (.aload_n 0, 1) := by decide +kernel
theorem d_N_changed_28 : decode b_N_changed 28 = .ok (.getfield 13, 3) := by decide +kernel
theorem d_N_changed_31 : decode b_N_changed 31 = .ok (.iload_n 1, 1) := by decide +kernel
theorem d_N_changed_32 : decode b_N_changed 32 = .ok (.baload, 1) := by decide +kernel
theorem d_N_changed_33 : decode b_N_changed 33 = .ok (.ifCond .eq 17, 3) := by decide +kernel
theorem d_N_changed_36 : decode b_N_changed 36 = .ok (.aload_n 0, 1) := by decide +kernel
theorem d_N_changed_37 : decode b_N_changed 37 = .ok (.getfield 7, 3) := by decide +kernel
theorem d_N_changed_40 : decode b_N_changed 40 = .ok (.bipush 16, 2) := by decide +kernel
theorem d_N_changed_42 : decode b_N_changed 42 = .ok (.iload_n 1, 1) := by decide +kernel
theorem d_N_changed_43 : decode b_N_changed 43 = .ok (.imul, 1) := by decide +kernel
theorem d_N_changed_44 : decode b_N_changed 44 = .ok (.iload_n 2, 1) := by decide +kernel
theorem d_N_changed_45 : decode b_N_changed 45 = .ok (.iadd, 1) := by decide +kernel
theorem d_N_changed_46 : decode b_N_changed 46 = .ok (.laload, 1) := by decide +kernel
theorem d_N_changed_47 : decode b_N_changed 47 = .ok (.goto 4, 3) := by decide +kernel
theorem d_N_changed_50 : decode b_N_changed 50 = .ok (.lconst 0, 1) := by decide +kernel
theorem d_N_changed_51 : decode b_N_changed 51 = .ok (.lstore_n 3, 1) := by decide +kernel
theorem d_N_changed_52 : decode b_N_changed 52 = .ok (.iload_n 2, 1) := by decide +kernel
theorem d_N_changed_53 : decode b_N_changed 53 = .ok (.bipush 8, 2) := by decide +kernel
theorem d_N_changed_55 : decode b_N_changed 55 = .ok (.if_icmp .ge 23, 3) := by decide +kernel
theorem d_N_changed_58 : decode b_N_changed 58 = .ok (.lload_n 3, 1) := by decide +kernel
theorem d_N_changed_59 : decode b_N_changed 59 = .ok (.aload_n 0, 1) := by decide +kernel
theorem d_N_changed_60 : decode b_N_changed 60 = .ok (.getfield 17, 3) := by decide +kernel
theorem d_N_changed_63 : decode b_N_changed 63 = .ok (.bipush 16, 2) := by decide +kernel
theorem d_N_changed_65 : decode b_N_changed 65 = .ok (.iload_n 1, 1) := by decide +kernel
theorem d_N_changed_66 : decode b_N_changed 66 = .ok (.imul, 1) := by decide +kernel
theorem d_N_changed_67 : decode b_N_changed 67 = .ok (.iload_n 2, 1) := by decide +kernel
theorem d_N_changed_68 : decode b_N_changed 68 = .ok (.iadd, 1) := by decide +kernel
theorem d_N_changed_69 : decode b_N_changed 69 = .ok (.laload, 1) := by decide +kernel
theorem d_N_changed_70 : decode b_N_changed 70 = .ok (.lcmp, 1) := by decide +kernel
theorem d_N_changed_71 : decode b_N_changed 71 = .ok (.ifCond .eq 7, 3) := by decide +kernel
theorem d_N_changed_74 : decode b_N_changed 74 = .ok (.iconst 1, 1) := by decide +kernel
theorem d_N_changed_75 : decode b_N_changed 75 = .ok (.goto 4, 3) := by decide +kernel
theorem d_N_changed_78 : decode b_N_changed 78 = .ok (.iconst 0, 1) := by decide +kernel
theorem d_N_changed_79 : decode b_N_changed 79 = .ok (.ireturn, 1) := by decide +kernel
def f_N_changed_51  (g : Sm) (x1 : Int32) (x2 : Int32) (y0 : Int64) : Option (Int32 × Sm) := (if 8 ≤ x2 then (some (0, g)) else (qs_in ((16 * x1) + x2) 192 (if (lg_cmp y0 (g.2 3 ((16 * x1) + x2).toNatClampNeg)) = 0 then (some (0, g)) else (some (1, g)))))
def f_N_changed (g : Sm) (a1 : Int32) (a2 : Int32) : Option (Int32 × Sm) := (if a2 = 15 then (qs_in (a1) 12 (qs_in (a1) 12 (if (g.1 2 a1.toNatClampNeg) = (g.1 4 a1.toNatClampNeg) then (some (0, g)) else (some (1, g))))) else (qs_in (a1) 12 (if (g.1 2 a1.toNatClampNeg) = 0 then (f_N_changed_51 g (a1) (a2) ((0 : Int64))) else (qs_in ((16 * a1) + a2) 192 (f_N_changed_51 g (a1) (a2) (g.2 1 ((16 * a1) + a2).toNatClampNeg))))))
set_option maxHeartbeats 4000000 in
set_option maxRecDepth 100000 in
theorem c_N_changed (l : Launch) (dC : Nat → ClassId) (dI : Nat → Nat → Nat) (h : Nat → Nat) (c : Nat → ClassId) (sz : Nat) (g : Sm) (a1 : Int32) (a2 : Int32) (r0 : Int32) (u0 : Sm) (hF : f_N_changed g a1 a2 = some (r0, u0)) : Met l y_N_changed (qs_ws y_N_changed b_N_changed 5 (some .boolean)) ({ frames := 0, cells := 0, slots := 0, locals := 0 } : Room) (va_Pc ([.ref (h 0), .int a1, .int a2] : List Value) (fun U => U.heap.size = sz ∧ va_P (dC, dI) vwCl (ms_W h c g) U.heap ∧ va_K (dC, dI) vwCl (ms_T c) U ∧ va_D (fun _ => True) (ms_W h c g) ∧ qs_N U)) (va_Qi (fun (r : Int32) (u : Sm) => r = r0 ∧ u = u0) (ms_at dC dI h c (va_A (ms_W h c g) sz)) (va_A (ms_W h c g) sz)) 0 0 (va_A (ms_W h c g) sz) := by
  refine Met.ofW (cc := b_N_changed) (maxL := 5) (ret := (some .boolean)) (by decide +kernel) rfl ?_
  intro p e s m args below meth cd s₁ B hml hv
  obtain ⟨rfl, hsz, hP, hK, hD0, hNs⟩ := hv
  have hx := B.exec
  have hb := B.bytes
  have hr := B.returns
  have hts := atoms_spec (ws := (qs_ws y_N_changed b_N_changed 5 (some .boolean))) B.pre
  have hg : ∀ w ∈ qs_gt, w.before _ s = true := fun w h => hts w (List.mem_cons_of_mem _ h)
  have hown : s.vm.findClass R_N = some m.cls := findClass_of_methodNamed B.named
  have hlocks := B.notSynchronized
  subst hsz
  have hD := hD0.self (sz := s.heap.size)
  generalize hAe : va_A (ms_W h c g) s.heap.size = A at hD ⊢
  have hA : ∀ q : Nat, s.heap.size ≤ q → A q := fun q h => by rw [← hAe]; exact Or.inr h
  have hS : va_S A s.heap s.heap [] := va_S.rf
  have kb_51 : ∀ (g : Sm) (x1 : Int32) (x2 : Int32) (y0 : Int64) (H : Heap) (locs : List Loc) (ls : Array Slot), va_P (dC, dI) vwCl (ms_W h c g) H → va_D A (ms_W h c g) → va_S A s.heap H locs → lv_has ls 5 [(0, .ref (h 0)), (1, .int (x1)), (2, .int (x2))] → f_N_changed_51  g x1 x2 y0 = some (r0, u0) → W p l e (headSpec (qs_ws y_N_changed b_N_changed 5 (some .boolean)) ({ frames := 0, cells := 0, slots := 0, locals := 0 } : Room)).room s m ([.ref (h 0), .int a1, .int a2] : List Value).toArray below meth cd H locs 0 0 (MQ below (va_Qi (fun (r : Int32) (u : Sm) => r = r0 ∧ u = u0) (ms_at dC dI h c A) A) ([.ref (h 0), .int a1, .int a2] : List Value).toArray s 0 0 A) (F0 m 51 ls [.long (y0)]) := by
    intro g x1 x2 y0 H locs ls hP hD hS hl hF
    unfold f_N_changed_51 at hF
    refine lv_lstore_n (lv' := [(3, .long (y0)), (0, .ref (h 0)), (1, .int (x1)), (2, .int (x2))]) hx hb d_N_changed_51 rfl hl (by decide) rfl (fun ls hl => ?_)
    refine lv_iload_n hx hb d_N_changed_52 rfl (lv_at hl 3 rfl) ?_
    refine lv_bipush (v := 8) hx hb d_N_changed_53 (by decide) ?_
    refine lv_icmp_ge (tgt := 78) hx hb d_N_changed_55 (by decide) (fun c8 => ?_) (fun c8 => ?_)
    · have hF := qs_pos c8 hF
      refine lv_iconst (v := 0) hx hb d_N_changed_78 (by decide) ?_
      obtain ⟨h8, h9⟩ := qs_ret hF
      exact W.zret (ty := .boolean) (v := 0) hx hb hr rfl (fun t ht hW => ⟨⟨0, g, rfl, ⟨h8, h9⟩, by rw [ht]; exact hP, va_K.moved hW.alike hK, hD⟩, hS.F ht⟩) hS.2.2 d_N_changed_79
    · have hF := qs_neg c8 hF
      refine lv_lload_n hx hb d_N_changed_58 rfl (lv_at hl 0 rfl) ?_
      refine lv_aload_n hx hb d_N_changed_59 rfl (lv_at hl 1 rfl) ?_
      refine va_get (D := (dC, dI)) (ci := 7) (v := .ref (h 3)) (C := R_N) (T := T_N) (N := 22) hx hb hg in_N hown hK hP 0 rfl rfl 3 (by decide) (hg _ t_621) (fun _ h9 => h9) rfl d_N_changed_60 ?_
      refine lv_bipush (v := 16) hx hb d_N_changed_63 (by decide) ?_
      refine lv_iload_n hx hb d_N_changed_65 rfl (lv_at hl 2 rfl) ?_
      refine lv_imul hx hb d_N_changed_66 ?_
      refine lv_iload_n hx hb d_N_changed_67 rfl (lv_at hl 3 rfl) ?_
      refine lv_iadd hx hb d_N_changed_68 ?_
      obtain ⟨c9, hF⟩ := qs_in_some hF
      refine va_lald hx hb hK hP 3 2 rfl rfl c9 d_N_changed_69 ?_
      refine W.lcmp hx hb d_N_changed_70 ?_
      refine lv_if_eq (tgt := 78) hx hb d_N_changed_71 (by decide) (fun c10 => ?_) (fun c10 => ?_)
      · have hF := qs_pos c10 hF
        refine lv_iconst (v := 0) hx hb d_N_changed_78 (by decide) ?_
        obtain ⟨h8, h9⟩ := qs_ret hF
        exact W.zret (ty := .boolean) (v := 0) hx hb hr rfl (fun t ht hW => ⟨⟨0, g, rfl, ⟨h8, h9⟩, by rw [ht]; exact hP, va_K.moved hW.alike hK, hD⟩, hS.F ht⟩) hS.2.2 d_N_changed_79
      · have hF := qs_neg c10 hF
        refine lv_iconst (v := 1) hx hb d_N_changed_74 (by decide) ?_
        refine lv_goto (tgt := 79) hx hb d_N_changed_75 (by decide) ?_
        obtain ⟨h8, h9⟩ := qs_ret hF
        exact W.zret (ty := .boolean) (v := 1) hx hb hr rfl (fun t ht hW => ⟨⟨1, g, rfl, ⟨h8, h9⟩, by rw [ht]; exact hP, va_K.moved hW.alike hK, hD⟩, hS.F ht⟩) hS.2.2 d_N_changed_79
  have hl := lv_entry ([.ref (h 0), .int a1, .int a2] : List Value) (n := 5) (Nat.le_of_ble_eq_true rfl)
  rw [lg_entry_eq]
  generalize (lg_sl ([.ref (h 0), .int a1, .int a2] : List Value) ++ List.replicate (5 - (lg_sl ([.ref (h 0), .int a1, .int a2] : List Value)).length) Slot.unset).toArray = ls at hl ⊢
  have hl : lv_has ls 5 [(0, .ref (h 0)), (1, .int (a1)), (2, .int (a2))] := hl
  unfold f_N_changed at hF
  obtain ⟨H, hHe⟩ : ∃ H, H = s.heap := ⟨_, rfl⟩
  obtain ⟨locs, hLe⟩ : ∃ L : List Loc, L = [] := ⟨_, rfl⟩
  rw [← hHe] at hP ⊢
  rw [← hLe]
  have hS : va_S A s.heap H locs := by rw [hHe, hLe]; exact hS
  refine lv_iload_n hx hb d_N_changed_0 rfl (lv_at hl 2 rfl) ?_
  refine lv_bipush (v := 15) hx hb d_N_changed_1 (by decide) ?_
  refine lv_icmp_ne (tgt := 27) hx hb d_N_changed_3 (by decide) (fun c1 => ?_) (fun c1 => ?_)
  · have hF := qs_neg c1 hF
    refine lv_aload_n hx hb d_N_changed_27 rfl (lv_at hl 0 rfl) ?_
    refine va_get (D := (dC, dI)) (ci := 7) (v := .ref (h 2)) (C := R_N) (T := T_N) (N := 22) hx hb hg in_N hown hK hP 0 rfl rfl 2 (by decide) (hg _ t_620) (fun _ h9 => h9) rfl d_N_changed_28 ?_
    refine lv_iload_n hx hb d_N_changed_31 rfl (lv_at hl 1 rfl) ?_
    obtain ⟨c2, hF⟩ := qs_in_some hF
    refine va_zald hx hb hK hP 2 1 rfl rfl c2 d_N_changed_32 ?_
    refine lv_if_eq (tgt := 50) hx hb d_N_changed_33 (by decide) (fun c3 => ?_) (fun c3 => ?_)
    · have hF := qs_pos c3 hF
      refine lv_lconst (v := 0) hx hb d_N_changed_50 (by decide) ?_
      exact kb_51 g (a1) (a2) ((0 : Int64)) H locs ls hP hD hS (lv_sub hl [0, 1, 2] rfl) hF
    · have hF := qs_neg c3 hF
      refine lv_aload_n hx hb d_N_changed_36 rfl (lv_at hl 0 rfl) ?_
      refine va_get (D := (dC, dI)) (ci := 7) (v := .ref (h 1)) (C := R_N) (T := T_N) (N := 22) hx hb hg in_N hown hK hP 0 rfl rfl 1 (by decide) (hg _ t_619) (fun _ h9 => h9) rfl d_N_changed_37 ?_
      refine lv_bipush (v := 16) hx hb d_N_changed_40 (by decide) ?_
      refine lv_iload_n hx hb d_N_changed_42 rfl (lv_at hl 1 rfl) ?_
      refine lv_imul hx hb d_N_changed_43 ?_
      refine lv_iload_n hx hb d_N_changed_44 rfl (lv_at hl 2 rfl) ?_
      refine lv_iadd hx hb d_N_changed_45 ?_
      obtain ⟨c4, hF⟩ := qs_in_some hF
      refine va_lald hx hb hK hP 1 0 rfl rfl c4 d_N_changed_46 ?_
      refine lv_goto (tgt := 51) hx hb d_N_changed_47 (by decide) ?_
      exact kb_51 g (a1) (a2) (g.2 1 ((16 * a1) + a2).toNatClampNeg) H locs ls hP hD hS (lv_sub hl [0, 1, 2] rfl) hF
  · have hF := qs_pos c1 hF
    refine lv_aload_n hx hb d_N_changed_6 rfl (lv_at hl 0 rfl) ?_
    refine va_get (D := (dC, dI)) (ci := 7) (v := .ref (h 2)) (C := R_N) (T := T_N) (N := 22) hx hb hg in_N hown hK hP 0 rfl rfl 2 (by decide) (hg _ t_620) (fun _ h9 => h9) rfl d_N_changed_7 ?_
    refine lv_iload_n hx hb d_N_changed_10 rfl (lv_at hl 1 rfl) ?_
    obtain ⟨c5, hF⟩ := qs_in_some hF
    refine va_zald hx hb hK hP 2 1 rfl rfl c5 d_N_changed_11 ?_
    refine lv_aload_n hx hb d_N_changed_12 rfl (lv_at hl 0 rfl) ?_
    refine va_get (D := (dC, dI)) (ci := 7) (v := .ref (h 4)) (C := R_N) (T := T_N) (N := 22) hx hb hg in_N hown hK hP 0 rfl rfl 4 (by decide) (hg _ t_622) (fun _ h9 => h9) rfl d_N_changed_13 ?_
    refine lv_iload_n hx hb d_N_changed_16 rfl (lv_at hl 1 rfl) ?_
    obtain ⟨c6, hF⟩ := qs_in_some hF
    refine va_zald hx hb hK hP 4 3 rfl rfl c6 d_N_changed_17 ?_
    refine lv_icmp_eq (tgt := 25) hx hb d_N_changed_18 (by decide) (fun c7 => ?_) (fun c7 => ?_)
    · have hF := qs_pos c7 hF
      refine lv_iconst (v := 0) hx hb d_N_changed_25 (by decide) ?_
      obtain ⟨h8, h9⟩ := qs_ret hF
      exact W.zret (ty := .boolean) (v := 0) hx hb hr rfl (fun t ht hW => ⟨⟨0, g, rfl, ⟨h8, h9⟩, by rw [ht]; exact hP, va_K.moved hW.alike hK, hD⟩, hS.F ht⟩) hS.2.2 d_N_changed_26
    · have hF := qs_neg c7 hF
      refine lv_iconst (v := 1) hx hb d_N_changed_21 (by decide) ?_
      refine lv_goto (tgt := 26) hx hb d_N_changed_22 (by decide) ?_
      obtain ⟨h8, h9⟩ := qs_ret hF
      exact W.zret (ty := .boolean) (v := 1) hx hb hr rfl (fun t ht hW => ⟨⟨1, g, rfl, ⟨h8, h9⟩, by rw [ht]; exact hP, va_K.moved hW.alike hK, hD⟩, hS.F ht⟩) hS.2.2 d_N_changed_26

theorem d_N_changes_0 : decode b_N_changes 0 = .ok (.aload_n 0, 1) := by decide +kernel
theorem d_N_changes_1 : decode b_N_changes 1 = .ok (.iconst 0, 1) := by decide +kernel
theorem d_N_changes_2 : decode b_N_changes 2 = .ok (.putfield 52, 3) := by decide +kernel
theorem d_N_changes_5 : decode b_N_changes 5 = .ok (.iconst 0, 1) := by decide +kernel
theorem d_N_changes_6 : decode b_N_changes 6 = .ok (.istore_n 1, 1) := by decide +kernel
theorem d_N_changes_7 : decode b_N_changes 7 = .ok (.iconst 0, 1) := by decide +kernel
theorem d_N_changes_8 : decode b_N_changes 8 = .ok (.istore_n 2, 1) := by decide +kernel
theorem d_N_changes_9 : decode b_N_changes 9 = .ok (.iload_n 2, 1) := by decide +kernel
theorem d_N_changes_10 : decode b_N_changes 10 = .ok (.sipush 192, 3) := by decide +kernel
theorem d_N_changes_13 : decode b_N_changes 13 = .ok (.if_icmp .ge 27, 3) := by decide +kernel
theorem d_N_changes_16 : decode b_N_changes 16 = .ok (.aload_n 0, 1) := by decide +kernel
theorem d_N_changes_17 : decode b_N_changes 17 = .ok (.iload_n 2, 1) := by decide +kernel
theorem d_N_changes_18 : decode b_N_changes 18 = .ok (.bipush 16, 2) := by decide +kernel
theorem d_N_changes_20 : decode b_N_changes 20 = .ok (.idiv, 1) := by decide +kernel
theorem d_N_changes_21 : decode b_N_changes 21 = .ok (.iload_n 2, 1) := by decide +kernel
theorem d_N_changes_22 : decode b_N_changes 22 = .ok (.bipush 16, 2) := by decide +kernel
theorem d_N_changes_24 : decode b_N_changes 24 = .ok (.irem, 1) := by decide +kernel
theorem d_N_changes_25 : decode b_N_changes 25 = .ok (.invokevirtual 211, 3) := by decide +kernel
theorem d_N_changes_28 : decode b_N_changes 28 = .ok (.ifCond .eq 6, 3) := by decide +kernel
theorem d_N_changes_31 : decode b_N_changes 31 = .ok (.iinc 1 1, 3) := by decide +kernel
theorem d_N_changes_34 : decode b_N_changes 34 = .ok (.iinc 2 1, 3) := by decide +kernel
theorem d_N_changes_37 : decode b_N_changes 37 = .ok (.goto (-28), 3) := by decide +kernel
theorem d_N_changes_40 : decode b_N_changes 40 = .ok (.iload_n 1, 1) := by decide +kernel
theorem d_N_changes_41 : decode b_N_changes 41 = .ok (.ireturn, 1) := by decide +kernel
def f_N_changes_34 (k9 : Sm → Int32 → Int32 → Option (Int32 × Sm)) (g : Sm) (x1 : Int32) (x2 : Int32) : Option (Int32 × Sm) := (k9 g (x1) (x2 + 1))
def f_N_changes_9  : Nat → Sm → Int32 → Int32 → Option (Int32 × Sm)
  | 0, _, _, _ => none
  | n + 1, g, x1, x2 => (if 192 ≤ x2 then (some (x1, g)) else (qs_bn (f_N_changed g (x2 / 16) (x2 - x2 / 16 * 16)) fun r3 u4 => (if r3 = 0 then (f_N_changes_34 (fun g x1 x2 => f_N_changes_9  n g x1 x2) u4 (x1) (x2)) else (f_N_changes_34 (fun g x1 x2 => f_N_changes_9  n g x1 x2) u4 (x1 + 1) (x2)))))
def f_N_changes (g : Sm)  : Option (Int32 × Sm) := (qs_st (qm_i g 20 (0)) fun u1 => (f_N_changes_9 200 u1 (0) (0)))
set_option maxHeartbeats 4000000 in
set_option maxRecDepth 100000 in
theorem c_N_changes (l : Launch) (dC : Nat → ClassId) (dI : Nat → Nat → Nat) (h : Nat → Nat) (c : Nat → ClassId) (sz : Nat) (g : Sm)  (r0 : Int32) (u0 : Sm) (hF : f_N_changes g  = some (r0, u0)) : Met l y_N_changes (qs_ws y_N_changes b_N_changes 3 (some .int)) ({ frames := 1, cells := 0, slots := 0, locals := 24 } : Room) (va_Pc ([.ref (h 0)] : List Value) (fun U => U.heap.size = sz ∧ va_P (dC, dI) vwCl (ms_W h c g) U.heap ∧ va_K (dC, dI) vwCl (ms_T c) U ∧ va_D (fun _ => True) (ms_W h c g) ∧ qs_N U)) (va_Qi (fun (r : Int32) (u : Sm) => r = r0 ∧ u = u0) (ms_at dC dI h c (va_A (ms_W h c g) sz)) (va_A (ms_W h c g) sz)) 0 0 (va_A (ms_W h c g) sz) := by
  refine Met.ofW (cc := b_N_changes) (maxL := 3) (ret := (some .int)) (by decide +kernel) rfl ?_
  intro p e s m args below meth cd s₁ B hml hv
  obtain ⟨rfl, hsz, hP, hK, hD0, hNs⟩ := hv
  have hx := B.exec
  have hb := B.bytes
  have hr := B.returns
  have hts := atoms_spec (ws := (qs_ws y_N_changes b_N_changes 3 (some .int))) B.pre
  have hg : ∀ w ∈ qs_gt, w.before _ s = true := fun w h => hts w (List.mem_cons_of_mem _ h)
  have hown : s.vm.findClass R_N = some m.cls := findClass_of_methodNamed B.named
  have hlocks := B.notSynchronized
  subst hsz
  have hD := hD0.self (sz := s.heap.size)
  generalize hAe : va_A (ms_W h c g) s.heap.size = A at hD ⊢
  have hA : ∀ q : Nat, s.heap.size ≤ q → A q := fun q h => by rw [← hAe]; exact Or.inr h
  have hS : va_S A s.heap s.heap [] := va_S.rf
  have kb_34 : ∀ (k9 : Sm → Int32 → Int32 → Option (Int32 × Sm)), (∀ (g : Sm) (x1 : Int32) (x2 : Int32) (H : Heap) (locs : List Loc) (ls : Array Slot), va_P (dC, dI) vwCl (ms_W h c g) H → va_D A (ms_W h c g) → va_S A s.heap H locs → lv_has ls 3 [(0, .ref (h 0)), (1, .int (x1)), (2, .int (x2))] → k9 g x1 x2 = some (r0, u0) → W p l e (headSpec (qs_ws y_N_changes b_N_changes 3 (some .int)) ({ frames := 1, cells := 0, slots := 0, locals := 24 } : Room)).room s m ([.ref (h 0)] : List Value).toArray below meth cd H locs 0 0 (MQ below (va_Qi (fun (r : Int32) (u : Sm) => r = r0 ∧ u = u0) (ms_at dC dI h c A) A) ([.ref (h 0)] : List Value).toArray s 0 0 A) (F0 m 9 ls [])) → ∀ (g : Sm) (x1 : Int32) (x2 : Int32) (H : Heap) (locs : List Loc) (ls : Array Slot), va_P (dC, dI) vwCl (ms_W h c g) H → va_D A (ms_W h c g) → va_S A s.heap H locs → lv_has ls 3 [(0, .ref (h 0)), (1, .int (x1)), (2, .int (x2))] → f_N_changes_34 k9  g x1 x2 = some (r0, u0) → W p l e (headSpec (qs_ws y_N_changes b_N_changes 3 (some .int)) ({ frames := 1, cells := 0, slots := 0, locals := 24 } : Room)).room s m ([.ref (h 0)] : List Value).toArray below meth cd H locs 0 0 (MQ below (va_Qi (fun (r : Int32) (u : Sm) => r = r0 ∧ u = u0) (ms_at dC dI h c A) A) ([.ref (h 0)] : List Value).toArray s 0 0 A) (F0 m 34 ls []) := by
    intro k9 hk9
    intro g x1 x2 H locs ls hP hD hS hl hF
    unfold f_N_changes_34 at hF
    refine lv_iinc (v := x2 + 1) (lv' := [(2, .int (x2 + 1)), (0, .ref (h 0)), (1, .int (x1))]) hx hb d_N_changes_34 hl (k := 2) rfl (by rfl) (by decide) rfl (fun ls hl => ?_)
    refine lv_goto (tgt := 9) hx hb d_N_changes_37 (by decide) ?_
    exact hk9 g (x1) (x2 + 1) H locs ls hP hD hS (lv_sub hl [1, 2, 0] rfl) hF
  have kb_9 : ∀ n : Nat, ∀ (g : Sm) (x1 : Int32) (x2 : Int32) (H : Heap) (locs : List Loc) (ls : Array Slot), va_P (dC, dI) vwCl (ms_W h c g) H → va_D A (ms_W h c g) → va_S A s.heap H locs → lv_has ls 3 [(0, .ref (h 0)), (1, .int (x1)), (2, .int (x2))] → f_N_changes_9 n g x1 x2 = some (r0, u0) → W p l e (headSpec (qs_ws y_N_changes b_N_changes 3 (some .int)) ({ frames := 1, cells := 0, slots := 0, locals := 24 } : Room)).room s m ([.ref (h 0)] : List Value).toArray below meth cd H locs 0 0 (MQ below (va_Qi (fun (r : Int32) (u : Sm) => r = r0 ∧ u = u0) (ms_at dC dI h c A) A) ([.ref (h 0)] : List Value).toArray s 0 0 A) (F0 m 9 ls []) := by
    intro n
    induction n with
    | zero =>
      intro g x1 x2 H locs ls hP hD hS hl hF
      exact nomatch (show (none : Option (Int32 × Sm)) = some _ from hF)
    | succ n ih =>
      intro g x1 x2 H locs ls hP hD hS hl hF
      rw [f_N_changes_9] at hF
      refine lv_iload_n hx hb d_N_changes_9 rfl (lv_at hl 2 rfl) ?_
      refine lv_sipush (v := 192) hx hb d_N_changes_10 (by decide) ?_
      refine lv_icmp_ge (tgt := 40) hx hb d_N_changes_13 (by decide) (fun c2 => ?_) (fun c2 => ?_)
      · have hF := qs_pos c2 hF
        refine lv_iload_n hx hb d_N_changes_40 rfl (lv_at hl 1 rfl) ?_
        obtain ⟨h8, h9⟩ := qs_ret hF
        exact W.iret (v := x1) hx hb hr (fun t ht hW => ⟨⟨x1, g, rfl, ⟨h8, h9⟩, by rw [ht]; exact hP, va_K.moved hW.alike hK, hD⟩, hS.F ht⟩) hS.2.2 d_N_changes_41
      · have hF := qs_neg c2 hF
        refine lv_aload_n hx hb d_N_changes_16 rfl (lv_at hl 0 rfl) ?_
        refine lv_iload_n hx hb d_N_changes_17 rfl (lv_at hl 2 rfl) ?_
        refine lv_bipush (v := 16) hx hb d_N_changes_18 (by decide) ?_
        refine lv_idiv hx hb d_N_changes_20 (by decide) ?_
        refine lv_iload_n hx hb d_N_changes_21 rfl (lv_at hl 2 rfl) ?_
        refine lv_bipush (v := 16) hx hb d_N_changes_22 (by decide) ?_
        refine lv_irem hx hb d_N_changes_24 (by decide) ?_
        obtain ⟨r3, u4, hX, hF⟩ := qs_bn_some hF
        refine qs_ci (Wd := ms_W h c) (isC := [0, 1, 2, 3, 4, 5, 6, 7, 8, 9, 10, 11, 12]) (va_runV (own := "QuakeServerModel") (C := "QuakeServerModel") (As := [.int (x2 / 16), .int (x2 - x2 / 16 * 16)]) (rest := []) ⟨hx, hb, hml, hown, hg⟩ (c_N_changed l dC dI h c H.size g (x2 / 16) (x2 - x2 / 16 * 16) r3 u4 hX) (cwV 2 hg (qs_gV t_850 t_852 tp_36 t_8 t_853) rfl rfl rfl (by decide +kernel) ⟨Nat.le_of_ble_eq_true rfl, Nat.le_of_ble_eq_true rfl⟩) ⟨qs_blind, va_recv hK hP (ci := 7) (q0 := 0) rfl rfl, fun U hU hW => ⟨rfl, by rw [hU], by rw [hU]; exact hP, va_K.moved hW.alike hK, hD.weaken (fun _ _ _ _ => trivial), hNs.warm hW⟩⟩ rfl rfl hl.1 rfl (lv_room (Nat.le_of_ble_eq_true rfl)) d_N_changes_25 ⟨Nat.le_of_ble_eq_true rfl, Nat.le_of_ble_eq_true rfl⟩) rfl hP hD hS hA (fun H locs hP hD hS => ?_)
        refine lv_if_eq (tgt := 34) hx hb d_N_changes_28 (by decide) (fun c5 => ?_) (fun c5 => ?_)
        · have hF := qs_pos c5 hF
          exact kb_34 _ ih u4 (x1) (x2) H locs ls hP hD hS (lv_sub hl [0, 1, 2] rfl) hF
        · have hF := qs_neg c5 hF
          refine lv_iinc (v := x1 + 1) (lv' := [(1, .int (x1 + 1)), (0, .ref (h 0)), (2, .int (x2))]) hx hb d_N_changes_31 hl (k := 1) rfl (by rfl) (by decide) rfl (fun ls hl => ?_)
          exact kb_34 _ ih u4 (x1 + 1) (x2) H locs ls hP hD hS (lv_sub hl [1, 0, 2] rfl) hF
  have hl := lv_entry ([.ref (h 0)] : List Value) (n := 3) (Nat.le_of_ble_eq_true rfl)
  rw [lg_entry_eq]
  generalize (lg_sl ([.ref (h 0)] : List Value) ++ List.replicate (3 - (lg_sl ([.ref (h 0)] : List Value)).length) Slot.unset).toArray = ls at hl ⊢
  have hl : lv_has ls 3 [(0, .ref (h 0))] := hl
  unfold f_N_changes at hF
  obtain ⟨H, hHe⟩ : ∃ H, H = s.heap := ⟨_, rfl⟩
  obtain ⟨locs, hLe⟩ : ∃ L : List Loc, L = [] := ⟨_, rfl⟩
  rw [← hHe] at hP ⊢
  rw [← hLe]
  have hS : va_S A s.heap H locs := by rw [hHe, hLe]; exact hS
  refine lv_aload_n hx hb d_N_changes_0 rfl (lv_at hl 0 rfl) ?_
  refine lv_iconst (v := 0) hx hb d_N_changes_1 (by decide) ?_
  refine va_put (D := (dC, dI)) (ci := 7) (v := .int (0)) (ty := .int) (C := R_N) (T := T_N) (N := 22) hx hb hg in_N ty_N ty_N_ok nm_N hown hK hP hD hS 0 rfl rfl 0 (by decide) (hg _ t_618) (fun _ h9 => h9) rfl (by decide +kernel) rfl rfl (Nat.le_of_ble_eq_true rfl) d_N_changes_2 (fun H locs hP hD hS => ?_)
  obtain ⟨u1, hu1, hF⟩ := qs_st_some hF
  have hP : va_P (dC, dI) vwCl (ms_W h c u1) H := by rw [hu1]; exact hP
  have hD : va_D A (ms_W h c u1) := by rw [hu1]; exact hD
  clear hu1
  refine lv_iconst (v := 0) hx hb d_N_changes_5 (by decide) ?_
  refine lv_istore_n (lv' := [(1, .int (0)), (0, .ref (h 0))]) hx hb d_N_changes_6 rfl hl (by decide) rfl (fun ls hl => ?_)
  refine lv_iconst (v := 0) hx hb d_N_changes_7 (by decide) ?_
  refine lv_istore_n (lv' := [(2, .int (0)), (1, .int (0)), (0, .ref (h 0))]) hx hb d_N_changes_8 rfl hl (by decide) rfl (fun ls hl => ?_)
  exact kb_9 200 u1 (0) (0) H locs ls hP hD hS (lv_sub hl [2, 1, 0] rfl) hF

theorem d_N_change_0 : decode b_N_change 0 = .ok (.aload_n 0, 1) := by decide +kernel
theorem d_N_change_1 : decode b_N_change 1 = .ok (.iconst 0, 1) := by decide +kernel
theorem d_N_change_2 : decode b_N_change 2 = .ok (.putfield 52, 3) := by decide +kernel
theorem d_N_change_5 : decode b_N_change 5 = .ok (.iload_n 1, 1) := by decide +kernel
theorem d_N_change_6 : decode b_N_change 6 = .ok (.istore_n 2, 1) := by decide +kernel
theorem d_N_change_7 : decode b_N_change 7 = .ok (.iconst 0, 1) := by decide +kernel
theorem d_N_change_8 : decode b_N_change 8 = .ok (.istore_n 3, 1) := by decide +kernel
theorem d_N_change_9 : decode b_N_change 9 = .ok (.iload_n 3, 1) := by decide +kernel
theorem d_N_change_10 : decode b_N_change 10 = .ok (.sipush 192, 3) := by decide +kernel
theorem d_N_change_13 : decode b_N_change 13 = .ok (.if_icmp .ge 40, 3) := by decide +kernel
theorem d_N_change_16 : decode b_N_change 16 = .ok (.iload_n 1, 1) := by decide +kernel
theorem d_N_change_17 : decode b_N_change 17 = .ok (.ifCond .lt 36, 3) := by decide +kernel
theorem d_N_change_20 : decode b_N_change 20 = .ok (.aload_n 0, 1) := by decide +kernel
theorem d_N_change_21 : decode b_N_change 21 = .ok (.iload_n 3, 1) := by decide +kernel
theorem d_N_change_22 : decode b_N_change 22 = .ok (.bipush 16, 2) := by decide +kernel
theorem d_N_change_24 : decode b_N_change 24 = .ok (.idiv, 1) := by decide +kernel
theorem d_N_change_25 : decode b_N_change 25 = .ok (.iload_n 3, 1) := by decide +kernel
theorem d_N_change_26 : decode b_N_change 26 = .ok (.bipush 16, 2) := by decide +kernel
theorem d_N_change_28 : decode b_N_change 28 = .ok (.irem, 1) := by decide +kernel
theorem d_N_change_29 : decode b_N_change 29 = .ok (.invokevirtual 211, 3) := by decide +kernel
theorem d_N_change_32 : decode b_N_change 32 = .ok (.ifCond .ne 6, 3) := by decide +kernel
theorem d_N_change_35 : decode b_N_change 35 = .ok (.goto 12, 3) := by decide +kernel
theorem d_N_change_38 : decode b_N_change 38 = .ok (.iload_n 2, 1) := by decide +kernel
theorem d_N_change_39 : decode b_N_change 39 = .ok (.ifCond .ne 5, 3) := by decide +kernel
theorem d_N_change_42 : decode b_N_change 42 = .ok (.iload_n 3, 1) := by decide +kernel
theorem d_N_change_43 : decode b_N_change 43 = .ok (.ireturn, 1) := by decide +kernel
theorem d_N_change_44 : decode b_N_change 44 = .ok (.iinc 2 (-1), 3) := by decide +kernel
theorem d_N_change_47 : decode b_N_change 47 = .ok (.iinc 3 1, 3) := by decide +kernel
theorem d_N_change_50 : decode b_N_change 50 = .ok (.goto (-41), 3) := by decide +kernel
theorem d_N_change_53 : decode b_N_change 53 = .ok (.aload_n 0, 1) := by decide +kernel
theorem d_N_change_54 : decode b_N_change 54 = .ok (.iconst 1, 1) := by decide +kernel
theorem d_N_change_55 : decode b_N_change 55 = .ok (.invokevirtual 69, 3) := by decide +kernel
theorem d_N_change_58 : decode b_N_change 58 = .ok (.ireturn, 1) := by decide +kernel
def f_N_change_53  (g : Sm) : Option (Int32 × Sm) := (qs_bn (f_N_fail g (1)) fun r8 u9 => (some (r8, u9)))
def f_N_change_47 (k9 : Sm → Int32 → Int32 → Int32 → Option (Int32 × Sm)) (g : Sm) (x1 : Int32) (x2 : Int32) (x3 : Int32) : Option (Int32 × Sm) := (k9 g (x1) (x2) (x3 + 1))
def f_N_change_9  : Nat → Sm → Int32 → Int32 → Int32 → Option (Int32 × Sm)
  | 0, _, _, _, _ => none
  | n + 1, g, x1, x2, x3 => (if 192 ≤ x3 then (f_N_change_53 g) else (if x1 < 0 then (f_N_change_53 g) else (qs_bn (f_N_changed g (x3 / 16) (x3 - x3 / 16 * 16)) fun r4 u5 => (if r4 = 0 then (f_N_change_47 (fun g x1 x2 x3 => f_N_change_9  n g x1 x2 x3) u5 (x1) (x2) (x3)) else (if x2 = 0 then (some (x3, u5)) else (f_N_change_47 (fun g x1 x2 x3 => f_N_change_9  n g x1 x2 x3) u5 (x1) (x2 + (-1)) (x3)))))))
def f_N_change (g : Sm) (a1 : Int32) : Option (Int32 × Sm) := (qs_st (qm_i g 20 (0)) fun u1 => (f_N_change_9 200 u1 (a1) (a1) (0)))
set_option maxHeartbeats 4000000 in
set_option maxRecDepth 100000 in
theorem c_N_change (l : Launch) (dC : Nat → ClassId) (dI : Nat → Nat → Nat) (h : Nat → Nat) (c : Nat → ClassId) (sz : Nat) (g : Sm) (a1 : Int32) (r0 : Int32) (u0 : Sm) (hF : f_N_change g a1 = some (r0, u0)) : Met l y_N_change (qs_ws y_N_change b_N_change 4 (some .int)) ({ frames := 1, cells := 0, slots := 0, locals := 24 } : Room) (va_Pc ([.ref (h 0), .int a1] : List Value) (fun U => U.heap.size = sz ∧ va_P (dC, dI) vwCl (ms_W h c g) U.heap ∧ va_K (dC, dI) vwCl (ms_T c) U ∧ va_D (fun _ => True) (ms_W h c g) ∧ qs_N U)) (va_Qi (fun (r : Int32) (u : Sm) => r = r0 ∧ u = u0) (ms_at dC dI h c (va_A (ms_W h c g) sz)) (va_A (ms_W h c g) sz)) 0 0 (va_A (ms_W h c g) sz) := by
  refine Met.ofW (cc := b_N_change) (maxL := 4) (ret := (some .int)) (by decide +kernel) rfl ?_
  intro p e s m args below meth cd s₁ B hml hv
  obtain ⟨rfl, hsz, hP, hK, hD0, hNs⟩ := hv
  have hx := B.exec
  have hb := B.bytes
  have hr := B.returns
  have hts := atoms_spec (ws := (qs_ws y_N_change b_N_change 4 (some .int))) B.pre
  have hg : ∀ w ∈ qs_gt, w.before _ s = true := fun w h => hts w (List.mem_cons_of_mem _ h)
  have hown : s.vm.findClass R_N = some m.cls := findClass_of_methodNamed B.named
  have hlocks := B.notSynchronized
  subst hsz
  have hD := hD0.self (sz := s.heap.size)
  generalize hAe : va_A (ms_W h c g) s.heap.size = A at hD ⊢
  have hA : ∀ q : Nat, s.heap.size ≤ q → A q := fun q h => by rw [← hAe]; exact Or.inr h
  have hS : va_S A s.heap s.heap [] := va_S.rf
  have kb_53 : ∀ (g : Sm) (H : Heap) (locs : List Loc) (ls : Array Slot), va_P (dC, dI) vwCl (ms_W h c g) H → va_D A (ms_W h c g) → va_S A s.heap H locs → lv_has ls 4 [(0, .ref (h 0))] → f_N_change_53  g = some (r0, u0) → W p l e (headSpec (qs_ws y_N_change b_N_change 4 (some .int)) ({ frames := 1, cells := 0, slots := 0, locals := 24 } : Room)).room s m ([.ref (h 0), .int a1] : List Value).toArray below meth cd H locs 0 0 (MQ below (va_Qi (fun (r : Int32) (u : Sm) => r = r0 ∧ u = u0) (ms_at dC dI h c A) A) ([.ref (h 0), .int a1] : List Value).toArray s 0 0 A) (F0 m 53 ls []) := by
    intro g H locs ls hP hD hS hl hF
    unfold f_N_change_53 at hF
    refine lv_aload_n hx hb d_N_change_53 rfl (lv_at hl 0 rfl) ?_
    refine lv_iconst (v := 1) hx hb d_N_change_54 (by decide) ?_
    obtain ⟨r8, u9, hX, hF⟩ := qs_bn_some hF
    refine qs_ci (Wd := ms_W h c) (isC := [0, 1, 2, 3, 4, 5, 6, 7, 8, 9, 10, 11, 12]) (va_runV (own := "QuakeServerModel") (C := "QuakeServerModel") (As := [.int (1)]) (rest := []) ⟨hx, hb, hml, hown, hg⟩ (c_N_fail l dC dI h c H.size g (1) r8 u9 hX) (cwV 1 hg (qs_gV t_697 t_699 tp_17 t_8 t_700) rfl rfl rfl (by decide +kernel) ⟨Nat.le_of_ble_eq_true rfl, Nat.le_of_ble_eq_true rfl⟩) ⟨qs_blind, va_recv hK hP (ci := 7) (q0 := 0) rfl rfl, fun U hU hW => ⟨rfl, by rw [hU], by rw [hU]; exact hP, va_K.moved hW.alike hK, hD.weaken (fun _ _ _ _ => trivial), hNs.warm hW⟩⟩ rfl rfl hl.1 rfl (lv_room (Nat.le_of_ble_eq_true rfl)) d_N_change_55 ⟨Nat.le_of_ble_eq_true rfl, Nat.le_of_ble_eq_true rfl⟩) rfl hP hD hS hA (fun H locs hP hD hS => ?_)
    obtain ⟨h8, h9⟩ := qs_ret hF
    exact W.iret (v := r8) hx hb hr (fun t ht hW => ⟨⟨r8, u9, rfl, ⟨h8, h9⟩, by rw [ht]; exact hP, va_K.moved hW.alike hK, hD⟩, hS.F ht⟩) hS.2.2 d_N_change_58
  have kb_47 : ∀ (k9 : Sm → Int32 → Int32 → Int32 → Option (Int32 × Sm)), (∀ (g : Sm) (x1 : Int32) (x2 : Int32) (x3 : Int32) (H : Heap) (locs : List Loc) (ls : Array Slot), va_P (dC, dI) vwCl (ms_W h c g) H → va_D A (ms_W h c g) → va_S A s.heap H locs → lv_has ls 4 [(0, .ref (h 0)), (1, .int (x1)), (2, .int (x2)), (3, .int (x3))] → k9 g x1 x2 x3 = some (r0, u0) → W p l e (headSpec (qs_ws y_N_change b_N_change 4 (some .int)) ({ frames := 1, cells := 0, slots := 0, locals := 24 } : Room)).room s m ([.ref (h 0), .int a1] : List Value).toArray below meth cd H locs 0 0 (MQ below (va_Qi (fun (r : Int32) (u : Sm) => r = r0 ∧ u = u0) (ms_at dC dI h c A) A) ([.ref (h 0), .int a1] : List Value).toArray s 0 0 A) (F0 m 9 ls [])) → ∀ (g : Sm) (x1 : Int32) (x2 : Int32) (x3 : Int32) (H : Heap) (locs : List Loc) (ls : Array Slot), va_P (dC, dI) vwCl (ms_W h c g) H → va_D A (ms_W h c g) → va_S A s.heap H locs → lv_has ls 4 [(0, .ref (h 0)), (1, .int (x1)), (2, .int (x2)), (3, .int (x3))] → f_N_change_47 k9  g x1 x2 x3 = some (r0, u0) → W p l e (headSpec (qs_ws y_N_change b_N_change 4 (some .int)) ({ frames := 1, cells := 0, slots := 0, locals := 24 } : Room)).room s m ([.ref (h 0), .int a1] : List Value).toArray below meth cd H locs 0 0 (MQ below (va_Qi (fun (r : Int32) (u : Sm) => r = r0 ∧ u = u0) (ms_at dC dI h c A) A) ([.ref (h 0), .int a1] : List Value).toArray s 0 0 A) (F0 m 47 ls []) := by
    intro k9 hk9
    intro g x1 x2 x3 H locs ls hP hD hS hl hF
    unfold f_N_change_47 at hF
    refine lv_iinc (v := x3 + 1) (lv' := [(3, .int (x3 + 1)), (0, .ref (h 0)), (1, .int (x1)), (2, .int (x2))]) hx hb d_N_change_47 hl (k := 3) rfl (by rfl) (by decide) rfl (fun ls hl => ?_)
    refine lv_goto (tgt := 9) hx hb d_N_change_50 (by decide) ?_
    exact hk9 g (x1) (x2) (x3 + 1) H locs ls hP hD hS (lv_sub hl [1, 2, 3, 0] rfl) hF
  have kb_9 : ∀ n : Nat, ∀ (g : Sm) (x1 : Int32) (x2 : Int32) (x3 : Int32) (H : Heap) (locs : List Loc) (ls : Array Slot), va_P (dC, dI) vwCl (ms_W h c g) H → va_D A (ms_W h c g) → va_S A s.heap H locs → lv_has ls 4 [(0, .ref (h 0)), (1, .int (x1)), (2, .int (x2)), (3, .int (x3))] → f_N_change_9 n g x1 x2 x3 = some (r0, u0) → W p l e (headSpec (qs_ws y_N_change b_N_change 4 (some .int)) ({ frames := 1, cells := 0, slots := 0, locals := 24 } : Room)).room s m ([.ref (h 0), .int a1] : List Value).toArray below meth cd H locs 0 0 (MQ below (va_Qi (fun (r : Int32) (u : Sm) => r = r0 ∧ u = u0) (ms_at dC dI h c A) A) ([.ref (h 0), .int a1] : List Value).toArray s 0 0 A) (F0 m 9 ls []) := by
    intro n
    induction n with
    | zero =>
      intro g x1 x2 x3 H locs ls hP hD hS hl hF
      exact nomatch (show (none : Option (Int32 × Sm)) = some _ from hF)
    | succ n ih =>
      intro g x1 x2 x3 H locs ls hP hD hS hl hF
      rw [f_N_change_9] at hF
      refine lv_iload_n hx hb d_N_change_9 rfl (lv_at hl 3 rfl) ?_
      refine lv_sipush (v := 192) hx hb d_N_change_10 (by decide) ?_
      refine lv_icmp_ge (tgt := 53) hx hb d_N_change_13 (by decide) (fun c2 => ?_) (fun c2 => ?_)
      · have hF := qs_pos c2 hF
        exact kb_53 g H locs ls hP hD hS (lv_sub hl [0] rfl) hF
      · have hF := qs_neg c2 hF
        refine lv_iload_n hx hb d_N_change_16 rfl (lv_at hl 1 rfl) ?_
        refine lv_if_lt (tgt := 53) hx hb d_N_change_17 (by decide) (fun c3 => ?_) (fun c3 => ?_)
        · have hF := qs_pos c3 hF
          exact kb_53 g H locs ls hP hD hS (lv_sub hl [0] rfl) hF
        · have hF := qs_neg c3 hF
          refine lv_aload_n hx hb d_N_change_20 rfl (lv_at hl 0 rfl) ?_
          refine lv_iload_n hx hb d_N_change_21 rfl (lv_at hl 3 rfl) ?_
          refine lv_bipush (v := 16) hx hb d_N_change_22 (by decide) ?_
          refine lv_idiv hx hb d_N_change_24 (by decide) ?_
          refine lv_iload_n hx hb d_N_change_25 rfl (lv_at hl 3 rfl) ?_
          refine lv_bipush (v := 16) hx hb d_N_change_26 (by decide) ?_
          refine lv_irem hx hb d_N_change_28 (by decide) ?_
          obtain ⟨r4, u5, hX, hF⟩ := qs_bn_some hF
          refine qs_ci (Wd := ms_W h c) (isC := [0, 1, 2, 3, 4, 5, 6, 7, 8, 9, 10, 11, 12]) (va_runV (own := "QuakeServerModel") (C := "QuakeServerModel") (As := [.int (x3 / 16), .int (x3 - x3 / 16 * 16)]) (rest := []) ⟨hx, hb, hml, hown, hg⟩ (c_N_changed l dC dI h c H.size g (x3 / 16) (x3 - x3 / 16 * 16) r4 u5 hX) (cwV 2 hg (qs_gV t_850 t_852 tp_36 t_8 t_853) rfl rfl rfl (by decide +kernel) ⟨Nat.le_of_ble_eq_true rfl, Nat.le_of_ble_eq_true rfl⟩) ⟨qs_blind, va_recv hK hP (ci := 7) (q0 := 0) rfl rfl, fun U hU hW => ⟨rfl, by rw [hU], by rw [hU]; exact hP, va_K.moved hW.alike hK, hD.weaken (fun _ _ _ _ => trivial), hNs.warm hW⟩⟩ rfl rfl hl.1 rfl (lv_room (Nat.le_of_ble_eq_true rfl)) d_N_change_29 ⟨Nat.le_of_ble_eq_true rfl, Nat.le_of_ble_eq_true rfl⟩) rfl hP hD hS hA (fun H locs hP hD hS => ?_)
          refine lv_if_ne (tgt := 38) hx hb d_N_change_32 (by decide) (fun c6 => ?_) (fun c6 => ?_)
          · have hF := qs_neg c6 hF
            refine lv_iload_n hx hb d_N_change_38 rfl (lv_at hl 2 rfl) ?_
            refine lv_if_ne (tgt := 44) hx hb d_N_change_39 (by decide) (fun c7 => ?_) (fun c7 => ?_)
            · have hF := qs_neg c7 hF
              refine lv_iinc (v := x2 + (-1)) (lv' := [(2, .int (x2 + (-1))), (0, .ref (h 0)), (1, .int (x1)), (3, .int (x3))]) hx hb d_N_change_44 hl (k := 2) rfl (by rfl) (by decide) rfl (fun ls hl => ?_)
              exact kb_47 _ ih u5 (x1) (x2 + (-1)) (x3) H locs ls hP hD hS (lv_sub hl [1, 2, 0, 3] rfl) hF
            · have hF := qs_pos c7 hF
              refine lv_iload_n hx hb d_N_change_42 rfl (lv_at hl 3 rfl) ?_
              obtain ⟨h8, h9⟩ := qs_ret hF
              exact W.iret (v := x3) hx hb hr (fun t ht hW => ⟨⟨x3, u5, rfl, ⟨h8, h9⟩, by rw [ht]; exact hP, va_K.moved hW.alike hK, hD⟩, hS.F ht⟩) hS.2.2 d_N_change_43
          · have hF := qs_pos c6 hF
            refine lv_goto (tgt := 47) hx hb d_N_change_35 (by decide) ?_
            exact kb_47 _ ih u5 (x1) (x2) (x3) H locs ls hP hD hS (lv_sub hl [0, 1, 2, 3] rfl) hF
  have hl := lv_entry ([.ref (h 0), .int a1] : List Value) (n := 4) (Nat.le_of_ble_eq_true rfl)
  rw [lg_entry_eq]
  generalize (lg_sl ([.ref (h 0), .int a1] : List Value) ++ List.replicate (4 - (lg_sl ([.ref (h 0), .int a1] : List Value)).length) Slot.unset).toArray = ls at hl ⊢
  have hl : lv_has ls 4 [(0, .ref (h 0)), (1, .int (a1))] := hl
  unfold f_N_change at hF
  obtain ⟨H, hHe⟩ : ∃ H, H = s.heap := ⟨_, rfl⟩
  obtain ⟨locs, hLe⟩ : ∃ L : List Loc, L = [] := ⟨_, rfl⟩
  rw [← hHe] at hP ⊢
  rw [← hLe]
  have hS : va_S A s.heap H locs := by rw [hHe, hLe]; exact hS
  refine lv_aload_n hx hb d_N_change_0 rfl (lv_at hl 0 rfl) ?_
  refine lv_iconst (v := 0) hx hb d_N_change_1 (by decide) ?_
  refine va_put (D := (dC, dI)) (ci := 7) (v := .int (0)) (ty := .int) (C := R_N) (T := T_N) (N := 22) hx hb hg in_N ty_N ty_N_ok nm_N hown hK hP hD hS 0 rfl rfl 0 (by decide) (hg _ t_618) (fun _ h9 => h9) rfl (by decide +kernel) rfl rfl (Nat.le_of_ble_eq_true rfl) d_N_change_2 (fun H locs hP hD hS => ?_)
  obtain ⟨u1, hu1, hF⟩ := qs_st_some hF
  have hP : va_P (dC, dI) vwCl (ms_W h c u1) H := by rw [hu1]; exact hP
  have hD : va_D A (ms_W h c u1) := by rw [hu1]; exact hD
  clear hu1
  refine lv_iload_n hx hb d_N_change_5 rfl (lv_at hl 1 rfl) ?_
  refine lv_istore_n (lv' := [(2, .int (a1)), (0, .ref (h 0)), (1, .int (a1))]) hx hb d_N_change_6 rfl hl (by decide) rfl (fun ls hl => ?_)
  refine lv_iconst (v := 0) hx hb d_N_change_7 (by decide) ?_
  refine lv_istore_n (lv' := [(3, .int (0)), (2, .int (a1)), (0, .ref (h 0)), (1, .int (a1))]) hx hb d_N_change_8 rfl hl (by decide) rfl (fun ls hl => ?_)
  exact kb_9 200 u1 (a1) (a1) (0) H locs ls hP hD hS (lv_sub hl [2, 3, 1, 0] rfl) hF

theorem d_N_message_0 : decode b_N_message 0 = .ok (.aload_n 0, 1) := by decide +kernel
theorem d_N_message_1 : decode b_N_message 1 = .ok (.invokevirtual 215, 3) := by decide +kernel
theorem d_N_message_4 : decode b_N_message 4 = .ok (.istore_n 1, 1) := by decide +kernel
theorem d_N_message_5 : decode b_N_message 5 = .ok (.iconst 0, 1) := by decide +kernel
theorem d_N_message_6 : decode b_N_message 6 = .ok (.istore_n 2, 1) := by decide +kernel
theorem d_N_message_7 : decode b_N_message 7 = .ok (.iload_n 2, 1) := by decide +kernel
theorem d_N_message_8 : decode b_N_message 8 = .ok (.sipush 192, 3) := by decide +kernel
theorem d_N_message_11 : decode b_N_message 11 = .ok (.if_icmp .ge 37, 3) := by decide +kernel
theorem d_N_message_14 : decode b_N_message 14 = .ok (.aload_n 0, 1) := by decide +kernel
theorem d_N_message_15 : decode b_N_message 15 = .ok (.getfield 17, 3) := by decide +kernel
theorem d_N_message_18 : decode b_N_message 18 = .ok (.iload_n 2, 1) := by decide +kernel
theorem d_N_message_19 : decode b_N_message 19 = .ok (.aload_n 0, 1) := by decide +kernel
theorem d_N_message_20 : decode b_N_message 20 = .ok (.getfield 13, 3) := by decide +kernel
theorem d_N_message_23 : decode b_N_message 23 = .ok (.iload_n 2, 1) := by decide +kernel
theorem d_N_message_24 : decode b_N_message 24 = .ok (.bipush 16, 2) := by decide +kernel
theorem d_N_message_26 : decode b_N_message 26 = .ok (.idiv, 1) := by decide +kernel
theorem d_N_message_27 : decode b_N_message 27 = .ok (.baload, 1) := by decide +kernel
theorem d_N_message_28 : decode b_N_message 28 = .ok (.ifCond .eq 12, 3) := by decide +kernel
theorem d_N_message_31 : decode b_N_message 31 = .ok (.aload_n 0, 1) := by decide +kernel
theorem d_N_message_32 : decode b_N_message 32 = .ok (.getfield 7, 3) := by decide +kernel
theorem d_N_message_35 : decode b_N_message 35 = .ok (.iload_n 2, 1) := by decide +kernel
theorem d_N_message_36 : decode b_N_message 36 = .ok (.laload, 1) := by decide +kernel
theorem d_N_message_37 : decode b_N_message 37 = .ok (.goto 4, 3) := by decide +kernel
theorem d_N_message_40 : decode b_N_message 40 = .ok (.lconst 0, 1) := by decide +kernel
theorem d_N_message_41 : decode b_N_message 41 = .ok (.lastore, 1) := by decide +kernel
theorem d_N_message_42 : decode b_N_message 42 = .ok (.iinc 2 1, 3) := by decide +kernel
theorem d_N_message_45 : decode b_N_message 45 = .ok (.goto (-38), 3) := by decide +kernel
theorem d_N_message_48 : decode b_N_message 48 = .ok (.iconst 0, 1) := by decide +kernel
theorem d_N_message_49 : decode b_N_message 49 = .ok (.istore_n 2, 1) := by decide +kernel
theorem d_N_message_50 : decode b_N_message 50 = .ok (.iload_n 2, 1) := by decide +kernel
theorem d_N_message_51 : decode b_N_message 51 = .ok (.bipush 12, 2) := by decide +kernel
theorem d_N_message_53 : decode b_N_message 53 = .ok (.if_icmp .ge 21, 3) := by decide +kernel
theorem d_N_message_56 : decode b_N_message 56 = .ok (.aload_n 0, 1) := by decide +kernel
theorem d_N_message_57 : decode b_N_message 57 = .ok (.getfield 20, 3) := by decide +kernel
theorem d_N_message_60 : decode b_N_message 60 = .ok (.iload_n 2, 1) := by decide +kernel
theorem d_N_message_61 : decode b_N_message 61 = .ok (.aload_n 0, 1) := by decide +kernel
theorem d_N_message_62 : decode b_N_message 62 = .ok (.getfield 13, 3) := by decide +kernel
theorem d_N_message_65 : decode b_N_message 65 = .ok (.iload_n 2, 1) := by decide +kernel
theorem d_N_message_66 : decode b_N_message 66 = .ok (.baload, 1) := by decide +kernel
theorem d_N_message_67 : decode b_N_message 67 = .ok (.bastore, 1) := by decide +kernel
theorem d_N_message_68 : decode b_N_message 68 = .ok (.iinc 2 1, 3) := by decide +kernel
theorem d_N_message_71 : decode b_N_message 71 = .ok (.goto (-21), 3) := by decide +kernel
theorem d_N_message_74 : decode b_N_message 74 = .ok (.iload_n 1, 1) := by decide +kernel
theorem d_N_message_75 : decode b_N_message 75 = .ok (.ireturn, 1) := by decide +kernel
def f_N_message_50  : Nat → Sm → Int32 → Int32 → Option (Int32 × Sm)
  | 0, _, _, _ => none
  | n + 1, g, x1, x2 => (if 12 ≤ x2 then (some (x1, g)) else (qs_in (x2) 12 (qs_in (x2) 12 (qs_st (qm_a g 4 x2.toNatClampNeg (vp_nar .boolean (g.1 2 x2.toNatClampNeg))) fun u10 => (f_N_message_50 n u10 (x1) (x2 + 1))))))
def f_N_message_41 (k7 : Sm → Int32 → Int32 → Option (Int32 × Sm)) (g : Sm) (x1 : Int32) (x2 : Int32) (y1 : Int32) (y2 : Int64) : Option (Int32 × Sm) := (qs_in (y1) 192 (qs_st (qm_la g 3 y1.toNatClampNeg (y2)) fun u12 => (k7 u12 (x1) (x2 + 1))))
def f_N_message_7  : Nat → Sm → Int32 → Int32 → Option (Int32 × Sm)
  | 0, _, _, _ => none
  | n + 1, g, x1, x2 => (if 192 ≤ x2 then (f_N_message_50 200 g (x1) (0)) else (qs_in (x2 / 16) 12 (if (g.1 2 (x2 / 16).toNatClampNeg) = 0 then (f_N_message_41 (fun g x1 x2 => f_N_message_7  n g x1 x2) g (x1) (x2) (x2) ((0 : Int64))) else (qs_in (x2) 192 (f_N_message_41 (fun g x1 x2 => f_N_message_7  n g x1 x2) g (x1) (x2) (x2) (g.2 1 x2.toNatClampNeg))))))
def f_N_message (g : Sm)  : Option (Int32 × Sm) := (qs_bn (f_N_changes g ) fun r1 u2 => (f_N_message_7 200 u2 (r1) (0)))
set_option maxHeartbeats 4000000 in
set_option maxRecDepth 100000 in
theorem c_N_message (l : Launch) (dC : Nat → ClassId) (dI : Nat → Nat → Nat) (h : Nat → Nat) (c : Nat → ClassId) (sz : Nat) (g : Sm)  (r0 : Int32) (u0 : Sm) (hF : f_N_message g  = some (r0, u0)) : Met l y_N_message (qs_ws y_N_message b_N_message 3 (some .int)) ({ frames := 2, cells := 0, slots := 0, locals := 46 } : Room) (va_Pc ([.ref (h 0)] : List Value) (fun U => U.heap.size = sz ∧ va_P (dC, dI) vwCl (ms_W h c g) U.heap ∧ va_K (dC, dI) vwCl (ms_T c) U ∧ va_D (fun _ => True) (ms_W h c g) ∧ qs_N U)) (va_Qi (fun (r : Int32) (u : Sm) => r = r0 ∧ u = u0) (ms_at dC dI h c (va_A (ms_W h c g) sz)) (va_A (ms_W h c g) sz)) 0 0 (va_A (ms_W h c g) sz) := by
  refine Met.ofW (cc := b_N_message) (maxL := 3) (ret := (some .int)) (by decide +kernel) rfl ?_
  intro p e s m args below meth cd s₁ B hml hv
  obtain ⟨rfl, hsz, hP, hK, hD0, hNs⟩ := hv
  have hx := B.exec
  have hb := B.bytes
  have hr := B.returns
  have hts := atoms_spec (ws := (qs_ws y_N_message b_N_message 3 (some .int))) B.pre
  have hg : ∀ w ∈ qs_gt, w.before _ s = true := fun w h => hts w (List.mem_cons_of_mem _ h)
  have hown : s.vm.findClass R_N = some m.cls := findClass_of_methodNamed B.named
  have hlocks := B.notSynchronized
  subst hsz
  have hD := hD0.self (sz := s.heap.size)
  generalize hAe : va_A (ms_W h c g) s.heap.size = A at hD ⊢
  have hA : ∀ q : Nat, s.heap.size ≤ q → A q := fun q h => by rw [← hAe]; exact Or.inr h
  have hS : va_S A s.heap s.heap [] := va_S.rf
  have kb_50 : ∀ n : Nat, ∀ (g : Sm) (x1 : Int32) (x2 : Int32) (H : Heap) (locs : List Loc) (ls : Array Slot), va_P (dC, dI) vwCl (ms_W h c g) H → va_D A (ms_W h c g) → va_S A s.heap H locs → lv_has ls 3 [(0, .ref (h 0)), (1, .int (x1)), (2, .int (x2))] → f_N_message_50 n g x1 x2 = some (r0, u0) → W p l e (headSpec (qs_ws y_N_message b_N_message 3 (some .int)) ({ frames := 2, cells := 0, slots := 0, locals := 46 } : Room)).room s m ([.ref (h 0)] : List Value).toArray below meth cd H locs 0 0 (MQ below (va_Qi (fun (r : Int32) (u : Sm) => r = r0 ∧ u = u0) (ms_at dC dI h c A) A) ([.ref (h 0)] : List Value).toArray s 0 0 A) (F0 m 50 ls []) := by
    intro n
    induction n with
    | zero =>
      intro g x1 x2 H locs ls hP hD hS hl hF
      exact nomatch (show (none : Option (Int32 × Sm)) = some _ from hF)
    | succ n ih =>
      intro g x1 x2 H locs ls hP hD hS hl hF
      rw [f_N_message_50] at hF
      refine lv_iload_n hx hb d_N_message_50 rfl (lv_at hl 2 rfl) ?_
      refine lv_bipush (v := 12) hx hb d_N_message_51 (by decide) ?_
      refine lv_icmp_ge (tgt := 74) hx hb d_N_message_53 (by decide) (fun c7 => ?_) (fun c7 => ?_)
      · have hF := qs_pos c7 hF
        refine lv_iload_n hx hb d_N_message_74 rfl (lv_at hl 1 rfl) ?_
        obtain ⟨h8, h9⟩ := qs_ret hF
        exact W.iret (v := x1) hx hb hr (fun t ht hW => ⟨⟨x1, g, rfl, ⟨h8, h9⟩, by rw [ht]; exact hP, va_K.moved hW.alike hK, hD⟩, hS.F ht⟩) hS.2.2 d_N_message_75
      · have hF := qs_neg c7 hF
        refine lv_aload_n hx hb d_N_message_56 rfl (lv_at hl 0 rfl) ?_
        refine va_get (D := (dC, dI)) (ci := 7) (v := .ref (h 4)) (C := R_N) (T := T_N) (N := 22) hx hb hg in_N hown hK hP 0 rfl rfl 4 (by decide) (hg _ t_622) (fun _ h9 => h9) rfl d_N_message_57 ?_
        refine lv_iload_n hx hb d_N_message_60 rfl (lv_at hl 2 rfl) ?_
        refine lv_aload_n hx hb d_N_message_61 rfl (lv_at hl 0 rfl) ?_
        refine va_get (D := (dC, dI)) (ci := 7) (v := .ref (h 2)) (C := R_N) (T := T_N) (N := 22) hx hb hg in_N hown hK hP 0 rfl rfl 2 (by decide) (hg _ t_620) (fun _ h9 => h9) rfl d_N_message_62 ?_
        refine lv_iload_n hx hb d_N_message_65 rfl (lv_at hl 2 rfl) ?_
        obtain ⟨c8, hF⟩ := qs_in_some hF
        refine va_zald hx hb hK hP 2 1 rfl rfl c8 d_N_message_66 ?_
        obtain ⟨c9, hF⟩ := qs_in_some hF
        refine va_zast hx hb hK hP hD hS 4 3 rfl rfl c9 d_N_message_67 (fun H locs hP hD hS => ?_)
        obtain ⟨u10, hu10, hF⟩ := qs_st_some hF
        have hP : va_P (dC, dI) vwCl (ms_W h c u10) H := by rw [hu10]; exact hP
        have hD : va_D A (ms_W h c u10) := by rw [hu10]; exact hD
        clear hu10
        refine lv_iinc (v := x2 + 1) (lv' := [(2, .int (x2 + 1)), (0, .ref (h 0)), (1, .int (x1))]) hx hb d_N_message_68 hl (k := 2) rfl (by rfl) (by decide) rfl (fun ls hl => ?_)
        refine lv_goto (tgt := 50) hx hb d_N_message_71 (by decide) ?_
        exact ih u10 (x1) (x2 + 1) H locs ls hP hD hS (lv_sub hl [1, 2, 0] rfl) hF
  have kb_41 : ∀ (k7 : Sm → Int32 → Int32 → Option (Int32 × Sm)), (∀ (g : Sm) (x1 : Int32) (x2 : Int32) (H : Heap) (locs : List Loc) (ls : Array Slot), va_P (dC, dI) vwCl (ms_W h c g) H → va_D A (ms_W h c g) → va_S A s.heap H locs → lv_has ls 3 [(0, .ref (h 0)), (1, .int (x1)), (2, .int (x2))] → k7 g x1 x2 = some (r0, u0) → W p l e (headSpec (qs_ws y_N_message b_N_message 3 (some .int)) ({ frames := 2, cells := 0, slots := 0, locals := 46 } : Room)).room s m ([.ref (h 0)] : List Value).toArray below meth cd H locs 0 0 (MQ below (va_Qi (fun (r : Int32) (u : Sm) => r = r0 ∧ u = u0) (ms_at dC dI h c A) A) ([.ref (h 0)] : List Value).toArray s 0 0 A) (F0 m 7 ls [])) → ∀ (g : Sm) (x1 : Int32) (x2 : Int32) (y1 : Int32) (y2 : Int64) (H : Heap) (locs : List Loc) (ls : Array Slot), va_P (dC, dI) vwCl (ms_W h c g) H → va_D A (ms_W h c g) → va_S A s.heap H locs → lv_has ls 3 [(0, .ref (h 0)), (1, .int (x1)), (2, .int (x2))] → f_N_message_41 k7  g x1 x2 y1 y2 = some (r0, u0) → W p l e (headSpec (qs_ws y_N_message b_N_message 3 (some .int)) ({ frames := 2, cells := 0, slots := 0, locals := 46 } : Room)).room s m ([.ref (h 0)] : List Value).toArray below meth cd H locs 0 0 (MQ below (va_Qi (fun (r : Int32) (u : Sm) => r = r0 ∧ u = u0) (ms_at dC dI h c A) A) ([.ref (h 0)] : List Value).toArray s 0 0 A) (F0 m 41 ls [.long (y2), .int (y1), .ref (h 3)]) := by
    intro k7 hk7
    intro g x1 x2 y1 y2 H locs ls hP hD hS hl hF
    unfold f_N_message_41 at hF
    obtain ⟨c11, hF⟩ := qs_in_some hF
    refine va_last hx hb hK hP hD hS 3 2 rfl rfl c11 d_N_message_41 (fun H locs hP hD hS => ?_)
    obtain ⟨u12, hu12, hF⟩ := qs_st_some hF
    have hP : va_P (dC, dI) vwCl (ms_W h c u12) H := by rw [hu12]; exact hP
    have hD : va_D A (ms_W h c u12) := by rw [hu12]; exact hD
    clear hu12
    refine lv_iinc (v := x2 + 1) (lv' := [(2, .int (x2 + 1)), (0, .ref (h 0)), (1, .int (x1))]) hx hb d_N_message_42 hl (k := 2) rfl (by rfl) (by decide) rfl (fun ls hl => ?_)
    refine lv_goto (tgt := 7) hx hb d_N_message_45 (by decide) ?_
    exact hk7 u12 (x1) (x2 + 1) H locs ls hP hD hS (lv_sub hl [1, 2, 0] rfl) hF
  have kb_7 : ∀ n : Nat, ∀ (g : Sm) (x1 : Int32) (x2 : Int32) (H : Heap) (locs : List Loc) (ls : Array Slot), va_P (dC, dI) vwCl (ms_W h c g) H → va_D A (ms_W h c g) → va_S A s.heap H locs → lv_has ls 3 [(0, .ref (h 0)), (1, .int (x1)), (2, .int (x2))] → f_N_message_7 n g x1 x2 = some (r0, u0) → W p l e (headSpec (qs_ws y_N_message b_N_message 3 (some .int)) ({ frames := 2, cells := 0, slots := 0, locals := 46 } : Room)).room s m ([.ref (h 0)] : List Value).toArray below meth cd H locs 0 0 (MQ below (va_Qi (fun (r : Int32) (u : Sm) => r = r0 ∧ u = u0) (ms_at dC dI h c A) A) ([.ref (h 0)] : List Value).toArray s 0 0 A) (F0 m 7 ls []) := by
    intro n
    induction n with
    | zero =>
      intro g x1 x2 H locs ls hP hD hS hl hF
      exact nomatch (show (none : Option (Int32 × Sm)) = some _ from hF)
    | succ n ih =>
      intro g x1 x2 H locs ls hP hD hS hl hF
      rw [f_N_message_7] at hF
      refine lv_iload_n hx hb d_N_message_7 rfl (lv_at hl 2 rfl) ?_
      refine lv_sipush (v := 192) hx hb d_N_message_8 (by decide) ?_
      refine lv_icmp_ge (tgt := 48) hx hb d_N_message_11 (by decide) (fun c3 => ?_) (fun c3 => ?_)
      · have hF := qs_pos c3 hF
        refine lv_iconst (v := 0) hx hb d_N_message_48 (by decide) ?_
        refine lv_istore_n (lv' := [(2, .int (0)), (0, .ref (h 0)), (1, .int (x1))]) hx hb d_N_message_49 rfl hl (by decide) rfl (fun ls hl => ?_)
        exact kb_50 200 g (x1) (0) H locs ls hP hD hS (lv_sub hl [1, 2, 0] rfl) hF
      · have hF := qs_neg c3 hF
        refine lv_aload_n hx hb d_N_message_14 rfl (lv_at hl 0 rfl) ?_
        refine va_get (D := (dC, dI)) (ci := 7) (v := .ref (h 3)) (C := R_N) (T := T_N) (N := 22) hx hb hg in_N hown hK hP 0 rfl rfl 3 (by decide) (hg _ t_621) (fun _ h9 => h9) rfl d_N_message_15 ?_
        refine lv_iload_n hx hb d_N_message_18 rfl (lv_at hl 2 rfl) ?_
        refine lv_aload_n hx hb d_N_message_19 rfl (lv_at hl 0 rfl) ?_
        refine va_get (D := (dC, dI)) (ci := 7) (v := .ref (h 2)) (C := R_N) (T := T_N) (N := 22) hx hb hg in_N hown hK hP 0 rfl rfl 2 (by decide) (hg _ t_620) (fun _ h9 => h9) rfl d_N_message_20 ?_
        refine lv_iload_n hx hb d_N_message_23 rfl (lv_at hl 2 rfl) ?_
        refine lv_bipush (v := 16) hx hb d_N_message_24 (by decide) ?_
        refine lv_idiv hx hb d_N_message_26 (by decide) ?_
        obtain ⟨c4, hF⟩ := qs_in_some hF
        refine va_zald hx hb hK hP 2 1 rfl rfl c4 d_N_message_27 ?_
        refine lv_if_eq (tgt := 40) hx hb d_N_message_28 (by decide) (fun c5 => ?_) (fun c5 => ?_)
        · have hF := qs_pos c5 hF
          refine lv_lconst (v := 0) hx hb d_N_message_40 (by decide) ?_
          exact kb_41 _ ih g (x1) (x2) (x2) ((0 : Int64)) H locs ls hP hD hS (lv_sub hl [0, 1, 2] rfl) hF
        · have hF := qs_neg c5 hF
          refine lv_aload_n hx hb d_N_message_31 rfl (lv_at hl 0 rfl) ?_
          refine va_get (D := (dC, dI)) (ci := 7) (v := .ref (h 1)) (C := R_N) (T := T_N) (N := 22) hx hb hg in_N hown hK hP 0 rfl rfl 1 (by decide) (hg _ t_619) (fun _ h9 => h9) rfl d_N_message_32 ?_
          refine lv_iload_n hx hb d_N_message_35 rfl (lv_at hl 2 rfl) ?_
          obtain ⟨c6, hF⟩ := qs_in_some hF
          refine va_lald hx hb hK hP 1 0 rfl rfl c6 d_N_message_36 ?_
          refine lv_goto (tgt := 41) hx hb d_N_message_37 (by decide) ?_
          exact kb_41 _ ih g (x1) (x2) (x2) (g.2 1 x2.toNatClampNeg) H locs ls hP hD hS (lv_sub hl [0, 1, 2] rfl) hF
  have hl := lv_entry ([.ref (h 0)] : List Value) (n := 3) (Nat.le_of_ble_eq_true rfl)
  rw [lg_entry_eq]
  generalize (lg_sl ([.ref (h 0)] : List Value) ++ List.replicate (3 - (lg_sl ([.ref (h 0)] : List Value)).length) Slot.unset).toArray = ls at hl ⊢
  have hl : lv_has ls 3 [(0, .ref (h 0))] := hl
  unfold f_N_message at hF
  obtain ⟨H, hHe⟩ : ∃ H, H = s.heap := ⟨_, rfl⟩
  obtain ⟨locs, hLe⟩ : ∃ L : List Loc, L = [] := ⟨_, rfl⟩
  rw [← hHe] at hP ⊢
  rw [← hLe]
  have hS : va_S A s.heap H locs := by rw [hHe, hLe]; exact hS
  refine lv_aload_n hx hb d_N_message_0 rfl (lv_at hl 0 rfl) ?_
  obtain ⟨r1, u2, hX, hF⟩ := qs_bn_some hF
  refine qs_ci (Wd := ms_W h c) (isC := [0, 1, 2, 3, 4, 5, 6, 7, 8, 9, 10, 11, 12]) (va_runV (own := "QuakeServerModel") (C := "QuakeServerModel") (As := []) (rest := []) ⟨hx, hb, hml, hown, hg⟩ (c_N_changes l dC dI h c H.size g  r1 u2 hX) (cwV 0 hg (qs_gV t_862 t_847 t_848 t_8 t_849) rfl rfl rfl (by decide +kernel) ⟨Nat.le_of_ble_eq_true rfl, Nat.le_of_ble_eq_true rfl⟩) ⟨qs_blind, va_recv hK hP (ci := 7) (q0 := 0) rfl rfl, fun U hU hW => ⟨rfl, by rw [hU], by rw [hU]; exact hP, va_K.moved hW.alike hK, hD.weaken (fun _ _ _ _ => trivial), hNs.warm hW⟩⟩ rfl rfl hl.1 rfl (lv_room (Nat.le_of_ble_eq_true rfl)) d_N_message_1 ⟨Nat.le_of_ble_eq_true rfl, Nat.le_of_ble_eq_true rfl⟩) rfl hP hD hS hA (fun H locs hP hD hS => ?_)
  refine lv_istore_n (lv' := [(1, .int (r1)), (0, .ref (h 0))]) hx hb d_N_message_4 rfl hl (by decide) rfl (fun ls hl => ?_)
  refine lv_iconst (v := 0) hx hb d_N_message_5 (by decide) ?_
  refine lv_istore_n (lv' := [(2, .int (0)), (1, .int (r1)), (0, .ref (h 0))]) hx hb d_N_message_6 rfl hl (by decide) rfl (fun ls hl => ?_)
  exact kb_7 200 u2 (r1) (0) H locs ls hP hD hS (lv_sub hl [2, 1, 0] rfl) hF

theorem d_N_count_0 : decode b_N_count 0 = .ok (.aload_n 0, 1) := by decide +kernel
theorem d_N_count_1 : decode b_N_count 1 = .ok (.iconst 0, 1) := by decide +kernel
theorem d_N_count_2 : decode b_N_count 2 = .ok (.putfield 52, 3) := by decide +kernel
theorem d_N_count_5 : decode b_N_count 5 = .ok (.iload_n 1, 1) := by decide +kernel
theorem d_N_count_6 : decode b_N_count 6 = .ok (.tableswitch 78 0 6 #[42, 47, 52, 58, 63, 68, 73], 42) := by decide +kernel
theorem d_N_count_48 : decode b_N_count 48 = .ok (.aload_n 0, 1) := by decide +kernel
theorem d_N_count_49 : decode b_N_count 49 = .ok (.invokevirtual 208, 3) := by decide +kernel
theorem d_N_count_52 : decode b_N_count 52 = .ok (.ireturn, 1) := by decide +kernel
theorem d_N_count_53 : decode b_N_count 53 = .ok (.aload_n 0, 1) := by decide +kernel
theorem d_N_count_54 : decode b_N_count 54 = .ok (.getfield 73, 3) := by decide +kernel
theorem d_N_count_57 : decode b_N_count 57 = .ok (.ireturn, 1) := by decide +kernel
theorem d_N_count_58 : decode b_N_count 58 = .ok (.aload_n 0, 1) := by decide +kernel
theorem d_N_count_59 : decode b_N_count 59 = .ok (.getfield 146, 3) := by decide +kernel
theorem d_N_count_62 : decode b_N_count 62 = .ok (.l2i, 1) := by decide +kernel
theorem d_N_count_63 : decode b_N_count 63 = .ok (.ireturn, 1) := by decide +kernel
theorem d_N_count_64 : decode b_N_count 64 = .ok (.aload_n 0, 1) := by decide +kernel
theorem d_N_count_65 : decode b_N_count 65 = .ok (.getfield 139, 3) := by decide +kernel
theorem d_N_count_68 : decode b_N_count 68 = .ok (.ireturn, 1) := by decide +kernel
theorem d_N_count_69 : decode b_N_count 69 = .ok (.aload_n 0, 1) := by decide +kernel
theorem d_N_count_70 : decode b_N_count 70 = .ok (.getfield 45, 3) := by decide +kernel
theorem d_N_count_73 : decode b_N_count 73 = .ok (.ireturn, 1) := by decide +kernel
theorem d_N_count_74 : decode b_N_count 74 = .ok (.aload_n 0, 1) := by decide +kernel
theorem d_N_count_75 : decode b_N_count 75 = .ok (.getfield 153, 3) := by decide +kernel
theorem d_N_count_78 : decode b_N_count 78 = .ok (.ireturn, 1) := by decide +kernel
theorem d_N_count_79 : decode b_N_count 79 = .ok (.aload_n 0, 1) := by decide +kernel
theorem d_N_count_80 : decode b_N_count 80 = .ok (.getfield 186, 3) := by decide +kernel
theorem d_N_count_83 : decode b_N_count 83 = .ok (.ireturn, 1) := by decide +kernel
theorem d_N_count_84 : decode b_N_count 84 = .ok (.aload_n 0, 1) := by decide +kernel
theorem d_N_count_85 : decode b_N_count 85 = .ok (.iconst 1, 1) := by decide +kernel
theorem d_N_count_86 : decode b_N_count 86 = .ok (.invokevirtual 69, 3) := by decide +kernel
theorem d_N_count_89 : decode b_N_count 89 = .ok (.ireturn, 1) := by decide +kernel
def f_N_count (g : Sm) (a1 : Int32) : Option (Int32 × Sm) := (qs_st (qm_i g 20 (0)) fun u1 => (if a1 = 0 then (qs_bn (f_N_present u1 ) fun r3 u4 => (some (r3, u4))) else (if a1 = 1 then (some (u1.1 21 0, u1)) else (if a1 = 2 then (some ((u1.2 22 0).toInt32, u1)) else (if a1 = 3 then (some (u1.1 24 0, u1)) else (if a1 = 4 then (some (u1.1 23 0, u1)) else (if a1 = 5 then (some (u1.1 25 0, u1)) else (if a1 = 6 then (some (u1.1 26 0, u1)) else (qs_bn (f_N_fail u1 (1)) fun r11 u12 => (some (r11, u12)))))))))))
set_option maxHeartbeats 4000000 in
set_option maxRecDepth 100000 in
theorem c_N_count (l : Launch) (dC : Nat → ClassId) (dI : Nat → Nat → Nat) (h : Nat → Nat) (c : Nat → ClassId) (sz : Nat) (g : Sm) (a1 : Int32) (r0 : Int32) (u0 : Sm) (hF : f_N_count g a1 = some (r0, u0)) : Met l y_N_count (qs_ws y_N_count b_N_count 2 (some .int)) ({ frames := 1, cells := 0, slots := 0, locals := 22 } : Room) (va_Pc ([.ref (h 0), .int a1] : List Value) (fun U => U.heap.size = sz ∧ va_P (dC, dI) vwCl (ms_W h c g) U.heap ∧ va_K (dC, dI) vwCl (ms_T c) U ∧ va_D (fun _ => True) (ms_W h c g) ∧ qs_N U)) (va_Qi (fun (r : Int32) (u : Sm) => r = r0 ∧ u = u0) (ms_at dC dI h c (va_A (ms_W h c g) sz)) (va_A (ms_W h c g) sz)) 0 0 (va_A (ms_W h c g) sz) := by
  refine Met.ofW (cc := b_N_count) (maxL := 2) (ret := (some .int)) (by decide +kernel) rfl ?_
  intro p e s m args below meth cd s₁ B hml hv
  obtain ⟨rfl, hsz, hP, hK, hD0, hNs⟩ := hv
  have hx := B.exec
  have hb := B.bytes
  have hr := B.returns
  have hts := atoms_spec (ws := (qs_ws y_N_count b_N_count 2 (some .int))) B.pre
  have hg : ∀ w ∈ qs_gt, w.before _ s = true := fun w h => hts w (List.mem_cons_of_mem _ h)
  have hown : s.vm.findClass R_N = some m.cls := findClass_of_methodNamed B.named
  have hlocks := B.notSynchronized
  subst hsz
  have hD := hD0.self (sz := s.heap.size)
  generalize hAe : va_A (ms_W h c g) s.heap.size = A at hD ⊢
  have hA : ∀ q : Nat, s.heap.size ≤ q → A q := fun q h => by rw [← hAe]; exact Or.inr h
  have hS : va_S A s.heap s.heap [] := va_S.rf
  have hl := lv_entry ([.ref (h 0), .int a1] : List Value) (n := 2) (Nat.le_of_ble_eq_true rfl)
  rw [lg_entry_eq]
  generalize (lg_sl ([.ref (h 0), .int a1] : List Value) ++ List.replicate (2 - (lg_sl ([.ref (h 0), .int a1] : List Value)).length) Slot.unset).toArray = ls at hl ⊢
  have hl : lv_has ls 2 [(0, .ref (h 0)), (1, .int (a1))] := hl
  unfold f_N_count at hF
  obtain ⟨H, hHe⟩ : ∃ H, H = s.heap := ⟨_, rfl⟩
  obtain ⟨locs, hLe⟩ : ∃ L : List Loc, L = [] := ⟨_, rfl⟩
  rw [← hHe] at hP ⊢
  rw [← hLe]
  have hS : va_S A s.heap H locs := by rw [hHe, hLe]; exact hS
  refine lv_aload_n hx hb d_N_count_0 rfl (lv_at hl 0 rfl) ?_
  refine lv_iconst (v := 0) hx hb d_N_count_1 (by decide) ?_
  refine va_put (D := (dC, dI)) (ci := 7) (v := .int (0)) (ty := .int) (C := R_N) (T := T_N) (N := 22) hx hb hg in_N ty_N ty_N_ok nm_N hown hK hP hD hS 0 rfl rfl 0 (by decide) (hg _ t_618) (fun _ h9 => h9) rfl (by decide +kernel) rfl rfl (Nat.le_of_ble_eq_true rfl) d_N_count_2 (fun H locs hP hD hS => ?_)
  obtain ⟨u1, hu1, hF⟩ := qs_st_some hF
  have hP : va_P (dC, dI) vwCl (ms_W h c u1) H := by rw [hu1]; exact hP
  have hD : va_D A (ms_W h c u1) := by rw [hu1]; exact hD
  clear hu1
  refine lv_iload_n hx hb d_N_count_5 rfl (lv_at hl 1 rfl) ?_
  by_cases c2 : a1 = 0
  · have hF := qs_pos c2 hF
    refine lv_tableIn (tgt := 48) hx hb d_N_count_6 (by rw [c2]; decide) (by rw [c2]; decide) (by rw [c2]; rfl) (by decide) ?_
    refine lv_aload_n hx hb d_N_count_48 rfl (lv_at hl 0 rfl) ?_
    obtain ⟨r3, u4, hX, hF⟩ := qs_bn_some hF
    refine qs_ci (Wd := ms_W h c) (isC := [0, 1, 2, 3, 4, 5, 6, 7, 8, 9, 10, 11, 12]) (va_runV (own := "QuakeServerModel") (C := "QuakeServerModel") (As := []) (rest := []) ⟨hx, hb, hml, hown, hg⟩ (c_N_present l dC dI h c H.size u1  r3 u4 hX) (cwV 0 hg (qs_gV t_842 t_844 tp_35 t_8 t_845) rfl rfl rfl (by decide +kernel) ⟨Nat.le_of_ble_eq_true rfl, Nat.le_of_ble_eq_true rfl⟩) ⟨qs_blind, va_recv hK hP (ci := 7) (q0 := 0) rfl rfl, fun U hU hW => ⟨rfl, by rw [hU], by rw [hU]; exact hP, va_K.moved hW.alike hK, hD.weaken (fun _ _ _ _ => trivial), hNs.warm hW⟩⟩ rfl rfl hl.1 rfl (lv_room (Nat.le_of_ble_eq_true rfl)) d_N_count_49 ⟨Nat.le_of_ble_eq_true rfl, Nat.le_of_ble_eq_true rfl⟩) rfl hP hD hS hA (fun H locs hP hD hS => ?_)
    obtain ⟨h8, h9⟩ := qs_ret hF
    exact W.iret (v := r3) hx hb hr (fun t ht hW => ⟨⟨r3, u4, rfl, ⟨h8, h9⟩, by rw [ht]; exact hP, va_K.moved hW.alike hK, hD⟩, hS.F ht⟩) hS.2.2 d_N_count_52
  have hF := qs_neg c2 hF
  by_cases c5 : a1 = 1
  · have hF := qs_pos c5 hF
    refine lv_tableIn (tgt := 53) hx hb d_N_count_6 (by rw [c5]; decide) (by rw [c5]; decide) (by rw [c5]; rfl) (by decide) ?_
    refine lv_aload_n hx hb d_N_count_53 rfl (lv_at hl 0 rfl) ?_
    refine va_get (D := (dC, dI)) (ci := 7) (v := .int (u1.1 21 0)) (C := R_N) (T := T_N) (N := 22) hx hb hg in_N hown hK hP 0 rfl rfl 6 (by decide) (hg _ t_624) (fun _ h9 => h9) rfl d_N_count_54 ?_
    obtain ⟨h8, h9⟩ := qs_ret hF
    exact W.iret (v := u1.1 21 0) hx hb hr (fun t ht hW => ⟨⟨(u1.1 21 0), u1, rfl, ⟨h8, h9⟩, by rw [ht]; exact hP, va_K.moved hW.alike hK, hD⟩, hS.F ht⟩) hS.2.2 d_N_count_57
  have hF := qs_neg c5 hF
  by_cases c6 : a1 = 2
  · have hF := qs_pos c6 hF
    refine lv_tableIn (tgt := 58) hx hb d_N_count_6 (by rw [c6]; decide) (by rw [c6]; decide) (by rw [c6]; rfl) (by decide) ?_
    refine lv_aload_n hx hb d_N_count_58 rfl (lv_at hl 0 rfl) ?_
    refine va_get (D := (dC, dI)) (ci := 7) (v := .long (u1.2 22 0)) (C := R_N) (T := T_N) (N := 22) hx hb hg in_N hown hK hP 0 rfl rfl 13 (by decide) (hg _ t_631) (fun _ h9 => h9) rfl d_N_count_59 ?_
    refine lv_l2i (v := (u1.2 22 0).toInt32) hx hb d_N_count_62 rfl ?_
    obtain ⟨h8, h9⟩ := qs_ret hF
    exact W.iret (v := (u1.2 22 0).toInt32) hx hb hr (fun t ht hW => ⟨⟨((u1.2 22 0).toInt32), u1, rfl, ⟨h8, h9⟩, by rw [ht]; exact hP, va_K.moved hW.alike hK, hD⟩, hS.F ht⟩) hS.2.2 d_N_count_63
  have hF := qs_neg c6 hF
  by_cases c7 : a1 = 3
  · have hF := qs_pos c7 hF
    refine lv_tableIn (tgt := 64) hx hb d_N_count_6 (by rw [c7]; decide) (by rw [c7]; decide) (by rw [c7]; rfl) (by decide) ?_
    refine lv_aload_n hx hb d_N_count_64 rfl (lv_at hl 0 rfl) ?_
    refine va_get (D := (dC, dI)) (ci := 7) (v := .int (u1.1 24 0)) (C := R_N) (T := T_N) (N := 22) hx hb hg in_N hown hK hP 0 rfl rfl 15 (by decide) (hg _ t_633) (fun _ h9 => h9) rfl d_N_count_65 ?_
    obtain ⟨h8, h9⟩ := qs_ret hF
    exact W.iret (v := u1.1 24 0) hx hb hr (fun t ht hW => ⟨⟨(u1.1 24 0), u1, rfl, ⟨h8, h9⟩, by rw [ht]; exact hP, va_K.moved hW.alike hK, hD⟩, hS.F ht⟩) hS.2.2 d_N_count_68
  have hF := qs_neg c7 hF
  by_cases c8 : a1 = 4
  · have hF := qs_pos c8 hF
    refine lv_tableIn (tgt := 69) hx hb d_N_count_6 (by rw [c8]; decide) (by rw [c8]; decide) (by rw [c8]; rfl) (by decide) ?_
    refine lv_aload_n hx hb d_N_count_69 rfl (lv_at hl 0 rfl) ?_
    refine va_get (D := (dC, dI)) (ci := 7) (v := .int (u1.1 23 0)) (C := R_N) (T := T_N) (N := 22) hx hb hg in_N hown hK hP 0 rfl rfl 14 (by decide) (hg _ t_632) (fun _ h9 => h9) rfl d_N_count_70 ?_
    obtain ⟨h8, h9⟩ := qs_ret hF
    exact W.iret (v := u1.1 23 0) hx hb hr (fun t ht hW => ⟨⟨(u1.1 23 0), u1, rfl, ⟨h8, h9⟩, by rw [ht]; exact hP, va_K.moved hW.alike hK, hD⟩, hS.F ht⟩) hS.2.2 d_N_count_73
  have hF := qs_neg c8 hF
  by_cases c9 : a1 = 5
  · have hF := qs_pos c9 hF
    refine lv_tableIn (tgt := 74) hx hb d_N_count_6 (by rw [c9]; decide) (by rw [c9]; decide) (by rw [c9]; rfl) (by decide) ?_
    refine lv_aload_n hx hb d_N_count_74 rfl (lv_at hl 0 rfl) ?_
    refine va_get (D := (dC, dI)) (ci := 7) (v := .int (u1.1 25 0)) (C := R_N) (T := T_N) (N := 22) hx hb hg in_N hown hK hP 0 rfl rfl 16 (by decide) (hg _ t_634) (fun _ h9 => h9) rfl d_N_count_75 ?_
    obtain ⟨h8, h9⟩ := qs_ret hF
    exact W.iret (v := u1.1 25 0) hx hb hr (fun t ht hW => ⟨⟨(u1.1 25 0), u1, rfl, ⟨h8, h9⟩, by rw [ht]; exact hP, va_K.moved hW.alike hK, hD⟩, hS.F ht⟩) hS.2.2 d_N_count_78
  have hF := qs_neg c9 hF
  by_cases c10 : a1 = 6
  · have hF := qs_pos c10 hF
    refine lv_tableIn (tgt := 79) hx hb d_N_count_6 (by rw [c10]; decide) (by rw [c10]; decide) (by rw [c10]; rfl) (by decide) ?_
    refine lv_aload_n hx hb d_N_count_79 rfl (lv_at hl 0 rfl) ?_
    refine va_get (D := (dC, dI)) (ci := 7) (v := .int (u1.1 26 0)) (C := R_N) (T := T_N) (N := 22) hx hb hg in_N hown hK hP 0 rfl rfl 17 (by decide) (hg _ t_635) (fun _ h9 => h9) rfl d_N_count_80 ?_
    obtain ⟨h8, h9⟩ := qs_ret hF
    exact W.iret (v := u1.1 26 0) hx hb hr (fun t ht hW => ⟨⟨(u1.1 26 0), u1, rfl, ⟨h8, h9⟩, by rw [ht]; exact hP, va_K.moved hW.alike hK, hD⟩, hS.F ht⟩) hS.2.2 d_N_count_83
  have hF := qs_neg c10 hF
  refine lv_tableOut (tgt := 84) hx hb d_N_count_6 (by have := lv_neT (a := 0) c2 (by decide); have := lv_neT (a := 1) c5 (by decide); have := lv_neT (a := 2) c6 (by decide); have := lv_neT (a := 3) c7 (by decide); have := lv_neT (a := 4) c8 (by decide); have := lv_neT (a := 5) c9 (by decide); have := lv_neT (a := 6) c10 (by decide); omega) (by decide) ?_
  refine lv_aload_n hx hb d_N_count_84 rfl (lv_at hl 0 rfl) ?_
  refine lv_iconst (v := 1) hx hb d_N_count_85 (by decide) ?_
  obtain ⟨r11, u12, hX, hF⟩ := qs_bn_some hF
  refine qs_ci (Wd := ms_W h c) (isC := [0, 1, 2, 3, 4, 5, 6, 7, 8, 9, 10, 11, 12]) (va_runV (own := "QuakeServerModel") (C := "QuakeServerModel") (As := [.int (1)]) (rest := []) ⟨hx, hb, hml, hown, hg⟩ (c_N_fail l dC dI h c H.size u1 (1) r11 u12 hX) (cwV 1 hg (qs_gV t_697 t_699 tp_17 t_8 t_700) rfl rfl rfl (by decide +kernel) ⟨Nat.le_of_ble_eq_true rfl, Nat.le_of_ble_eq_true rfl⟩) ⟨qs_blind, va_recv hK hP (ci := 7) (q0 := 0) rfl rfl, fun U hU hW => ⟨rfl, by rw [hU], by rw [hU]; exact hP, va_K.moved hW.alike hK, hD.weaken (fun _ _ _ _ => trivial), hNs.warm hW⟩⟩ rfl rfl hl.1 rfl (lv_room (Nat.le_of_ble_eq_true rfl)) d_N_count_86 ⟨Nat.le_of_ble_eq_true rfl, Nat.le_of_ble_eq_true rfl⟩) rfl hP hD hS hA (fun H locs hP hD hS => ?_)
  obtain ⟨h8, h9⟩ := qs_ret hF
  exact W.iret (v := r11) hx hb hr (fun t ht hW => ⟨⟨r11, u12, rfl, ⟨h8, h9⟩, by rw [ht]; exact hP, va_K.moved hW.alike hK, hD⟩, hS.F ht⟩) hS.2.2 d_N_count_89
