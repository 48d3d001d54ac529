theorem d_N_touch_0 : decode b_N_touch 0 = .ok (.aload_n 0, 1) := by decide +kernel
theorem d_N_touch_1 : decode b_N_touch 1 = .ok (.getfield 7, 3) := by decide +kernel
theorem d_N_touch_4 : decode b_N_touch 4 = .ok (.bipush 16, 2) := by decide +kernel
theorem d_N_touch_6 : decode b_N_touch 6 = .ok (.iload_n 1, 1) := by decide +kernel
theorem d_N_touch_7 : decode b_N_touch 7 = .ok (.imul, 1) := by decide +kernel
theorem d_N_touch_8 : decode b_N_touch 8 = .ok (.bipush 8, 2) := by decide +kernel
theorem d_N_touch_10 : decode b_N_touch 10 = .ok (.iadd, 1) := by decide +kernel
theorem d_N_touch_11 : decode b_N_touch 11 = .ok (.laload, 1) := by decide +kernel
theorem d_N_touch_12 : decode b_N_touch 12 = .ok (.invokestatic 113, 3) := by decide +kernel
theorem d_N_touch_15 : decode b_N_touch 15 = .ok (.iconst 1, 1) := by decide +kernel
theorem d_N_touch_16 : decode b_N_touch 16 = .ok (.isub, 1) := by decide +kernel
theorem d_N_touch_17 : decode b_N_touch 17 = .ok (.istore_n 3, 1) := by decide +kernel
theorem d_N_touch_18 : decode b_N_touch 18 = .ok (.aload_n 0, 1) := by decide +kernel
theorem d_N_touch_19 : decode b_N_touch 19 = .ok (.iload_n 3, 1) := by decide +kernel
theorem d_N_touch_20 : decode b_N_touch 20 = .ok (.iload_n 1, 1) := by decide +kernel
theorem d_N_touch_21 : decode b_N_touch 21 = .ok (.i2l, 1) := by decide +kernel
theorem d_N_touch_22 : decode b_N_touch 22 = .ok (.iload_n 2, 1) := by decide +kernel
theorem d_N_touch_23 : decode b_N_touch 23 = .ok (.i2l, 1) := by decide +kernel
theorem d_N_touch_24 : decode b_N_touch 24 = .ok (.iload_n 3, 1) := by decide +kernel
theorem d_N_touch_25 : decode b_N_touch 25 = .ok (.iconst 0, 1) := by decide +kernel
theorem d_N_touch_26 : decode b_N_touch 26 = .ok (.iconst 5, 1) := by decide +kernel
theorem d_N_touch_27 : decode b_N_touch 27 = .ok (.invokestatic 65, 3) := by decide +kernel
theorem d_N_touch_30 : decode b_N_touch 30 = .ok (.invokevirtual 156, 3) := by decide +kernel
theorem d_N_touch_33 : decode b_N_touch 33 = .ok (.pop, 1) := by decide +kernel
theorem d_N_touch_34 : decode b_N_touch 34 = .ok (.return_, 1) := by decide +kernel
def f_N_touch (g : Sm) (a1 : Int32) (a2 : Int32) : Option (Unit × Sm) := (qs_in ((16 * a1) + 8) 192 (qs_pb (f_N_whole (g.2 1 ((16 * a1) + 8).toNatClampNeg)) fun r2 => (qs_pb (f_N_in (r2 - 1) (0) (5)) fun r3 => (qs_bn (f_N_perform g (r2 - 1) (a1.toInt64) (a2.toInt64) (r3)) fun r4 u5 => (some ((), u5))))))
set_option maxHeartbeats 4000000 in
set_option maxRecDepth 100000 in
theorem c_N_touch (l : Launch) (dC : Nat → ClassId) (dI : Nat → Nat → Nat) (h : Nat → Nat) (c : Nat → ClassId) (sz : Nat) (g : Sm) (a1 : Int32) (a2 : Int32) (u0 : Sm) (hF : f_N_touch g a1 a2 = some ((), u0)) : Met l y_N_touch (qs_ws y_N_touch b_N_touch 4 none) ({ frames := 6, cells := 0, slots := 0, locals := 152 } : Room) (va_Pc ([.ref (h 0), .int a1, .int a2] : List Value) (fun U => U.heap.size = sz ∧ va_P (dC, dI) vwCl (ms_W h c g) U.heap ∧ va_K (dC, dI) vwCl (ms_T c) U ∧ va_D (fun _ => True) (ms_W h c g) ∧ qs_N U)) (va_Qv (fun (u : Sm) => u = u0) (ms_at dC dI h c (va_A (ms_W h c g) sz)) (va_A (ms_W h c g) sz)) 0 0 (va_A (ms_W h c g) sz) := by
  refine Met.ofW (cc := b_N_touch) (maxL := 4) (ret := none) (by decide +kernel) rfl ?_
  intro p e s m args below meth cd s₁ B hml hv
  obtain ⟨rfl, hsz, hP, hK, hD0, hNs⟩ := hv
  have hx := B.exec
  have hb := B.bytes
  have hr := B.returns
  have hts := atoms_spec (ws := (qs_ws y_N_touch b_N_touch 4 none)) B.pre
  have hg : ∀ w ∈ qs_gt, w.before _ s = true := fun w h => hts w (List.mem_cons_of_mem _ h)
  have hown : s.vm.findClass R_N = some m.cls := findClass_of_methodNamed B.named
  have hlocks := B.notSynchronized
  subst hsz
  have hD := hD0.self (sz := s.heap.size)
  generalize hAe : va_A (ms_W h c g) s.heap.size = A at hD ⊢
  have hA : ∀ q : Nat, s.heap.size ≤ q → A q := fun q h => by rw [← hAe]; exact Or.inr h
  have hS : va_S A s.heap s.heap [] := va_S.rf
  have hl := lv_entry ([.ref (h 0), .int a1, .int a2] : List Value) (n := 4) (Nat.le_of_ble_eq_true rfl)
  rw [lg_entry_eq]
  generalize (lg_sl ([.ref (h 0), .int a1, .int a2] : List Value) ++ List.replicate (4 - (lg_sl ([.ref (h 0), .int a1, .int a2] : List Value)).length) Slot.unset).toArray = ls at hl ⊢
  have hl : lv_has ls 4 [(0, .ref (h 0)), (1, .int (a1)), (2, .int (a2))] := hl
  unfold f_N_touch at hF
  obtain ⟨H, hHe⟩ : ∃ H, H = s.heap := ⟨_, rfl⟩
  obtain ⟨locs, hLe⟩ : ∃ L : List Loc, L = [] := ⟨_, rfl⟩
  rw [← hHe] at hP ⊢
  rw [← hLe]
  have hS : va_S A s.heap H locs := by rw [hHe, hLe]; exact hS
  refine lv_aload_n hx hb d_N_touch_0 rfl (lv_at hl 0 rfl) ?_
  refine va_get (D := (dC, dI)) (ci := 7) (v := .ref (h 1)) (C := R_N) (T := T_N) (N := 22) hx hb hg in_N hown hK hP 0 rfl rfl 1 (by decide) (hg _ t_619) (fun _ h9 => h9) rfl d_N_touch_1 ?_
  refine lv_bipush (v := 16) hx hb d_N_touch_4 (by decide) ?_
  refine lv_iload_n hx hb d_N_touch_6 rfl (lv_at hl 1 rfl) ?_
  refine lv_imul hx hb d_N_touch_7 ?_
  refine lv_bipush (v := 8) hx hb d_N_touch_8 (by decide) ?_
  refine lv_iadd hx hb d_N_touch_10 ?_
  obtain ⟨c1, hF⟩ := qs_in_some hF
  refine va_lald hx hb hK hP 1 0 rfl rfl c1 d_N_touch_11 ?_
  obtain ⟨r2, hX, hF⟩ := qs_pb_some hF
  refine qs_psi (va_runS (own := "QuakeServerModel") (As := [.long (g.2 1 ((16 * a1) + 8).toNatClampNeg)]) (rest := []) ⟨hx, hb, hml, hown, hg⟩ (c_N_whole l H.size (g.2 1 ((16 * a1) + 8).toNatClampNeg) r2 hX) (va_cwS 1 hg (qs_gS t_773 t_774 t_8 t_775) rfl rfl rfl (by decide +kernel) ⟨Nat.le_of_ble_eq_true rfl, Nat.le_of_ble_eq_true rfl⟩) ⟨qs_blind0, fun U hU hW => ⟨rfl, by rw [hU], hNs.warm hW⟩⟩ rfl rfl hl.1 rfl (lv_room (Nat.le_of_ble_eq_true rfl)) d_N_touch_12 ⟨Nat.le_of_ble_eq_true rfl, Nat.le_of_ble_eq_true rfl⟩) hP hD hS hA (fun H locs hP hS => ?_)
  refine lv_iconst (v := 1) hx hb d_N_touch_15 (by decide) ?_
  refine lv_isub hx hb d_N_touch_16 ?_
  refine lv_istore_n (lv' := [(3, .int (r2 - 1)), (0, .ref (h 0)), (1, .int (a1)), (2, .int (a2))]) hx hb d_N_touch_17 rfl hl (by decide) rfl (fun ls hl => ?_)
  refine lv_aload_n hx hb d_N_touch_18 rfl (lv_at hl 1 rfl) ?_
  refine lv_iload_n hx hb d_N_touch_19 rfl (lv_at hl 0 rfl) ?_
  refine lv_iload_n hx hb d_N_touch_20 rfl (lv_at hl 2 rfl) ?_
  refine lv_i2l (v := a1.toInt64) hx hb d_N_touch_21 rfl ?_
  refine lv_iload_n hx hb d_N_touch_22 rfl (lv_at hl 3 rfl) ?_
  refine lv_i2l (v := a2.toInt64) hx hb d_N_touch_23 rfl ?_
  refine lv_iload_n hx hb d_N_touch_24 rfl (lv_at hl 0 rfl) ?_
  refine lv_iconst (v := 0) hx hb d_N_touch_25 (by decide) ?_
  refine lv_iconst (v := 5) hx hb d_N_touch_26 (by decide) ?_
  obtain ⟨r3, hX, hF⟩ := qs_pb_some hF
  refine qs_psi (va_runS (own := "QuakeServerModel") (As := [.int (r2 - 1), .int (0), .int (5)]) (rest := [.long (a2.toInt64), .long (a1.toInt64), .int (r2 - 1), .ref (h 0)]) ⟨hx, hb, hml, hown, hg⟩ (c_N_in l H.size (r2 - 1) (0) (5) r3 hX) (va_cwS 3 hg (qs_gS t_694 t_695 t_8 t_696) rfl rfl rfl (by decide +kernel) ⟨Nat.le_of_ble_eq_true rfl, Nat.le_of_ble_eq_true rfl⟩) ⟨qs_blind0, fun U hU hW => ⟨rfl, by rw [hU], hNs.warm hW⟩⟩ rfl rfl hl.1 rfl (lv_room (Nat.le_of_ble_eq_true rfl)) d_N_touch_27 ⟨Nat.le_of_ble_eq_true rfl, Nat.le_of_ble_eq_true rfl⟩) hP hD hS hA (fun H locs hP hS => ?_)
  obtain ⟨r4, u5, hX, hF⟩ := qs_bn_some hF
  refine qs_ci (Wd := ms_W h c) (isC := [0, 1, 2, 3, 4, 5, 6, 7, 8, 9, 10, 11, 12]) (va_runV (own := "QuakeServerModel") (C := "QuakeServerModel") (As := [.int (r2 - 1), .long (a1.toInt64), .long (a2.toInt64), .int (r3)]) (rest := []) ⟨hx, hb, hml, hown, hg⟩ (c_N_perform l dC dI h c H.size g (r2 - 1) (a1.toInt64) (a2.toInt64) (r3) r4 u5 hX) (cwV 4 hg (qs_gV t_757 t_759 tp_20 t_8 t_760) rfl rfl rfl (by decide +kernel) ⟨Nat.le_of_ble_eq_true rfl, Nat.le_of_ble_eq_true rfl⟩) ⟨qs_blind, va_recv hK hP (ci := 7) (q0 := 0) rfl rfl, fun U hU hW => ⟨rfl, by rw [hU], by rw [hU]; exact hP, va_K.moved hW.alike hK, hD.weaken (fun _ _ _ _ => trivial), hNs.warm hW⟩⟩ rfl rfl hl.1 rfl (lv_room (Nat.le_of_ble_eq_true rfl)) d_N_touch_30 ⟨Nat.le_of_ble_eq_true rfl, Nat.le_of_ble_eq_true rfl⟩) rfl hP hD hS hA (fun H locs hP hD hS => ?_)
  refine lv_pop hx hb d_N_touch_33 rfl ?_
  obtain ⟨h8, h9⟩ := qs_ret hF
  exact W.vret hx hb hr (fun t ht hW => ⟨⟨u5, rfl, h9, by rw [ht]; exact hP, va_K.moved hW.alike hK, hD⟩, hS.F ht⟩) hS.2.2 d_N_touch_34

theorem d_N_go_0 : decode b_N_go 0 = .ok (.aload_n 0, 1) := by decide +kernel
theorem d_N_go_1 : decode b_N_go 1 = .ok (.getfield 7, 3) := by decide +kernel
theorem d_N_go_4 : decode b_N_go 4 = .ok (.bipush 16, 2) := by decide +kernel
theorem d_N_go_6 : decode b_N_go 6 = .ok (.iload_n 1, 1) := by decide +kernel
theorem d_N_go_7 : decode b_N_go 7 = .ok (.imul, 1) := by decide +kernel
theorem d_N_go_8 : decode b_N_go 8 = .ok (.iconst 2, 1) := by decide +kernel
theorem d_N_go_9 : decode b_N_go 9 = .ok (.iadd, 1) := by decide +kernel
theorem d_N_go_10 : decode b_N_go 10 = .ok (.iload_n 2, 1) := by decide +kernel
theorem d_N_go_11 : decode b_N_go 11 = .ok (.iadd, 1) := by decide +kernel
theorem d_N_go_12 : decode b_N_go 12 = .ok (.laload, 1) := by decide +kernel
theorem d_N_go_13 : decode b_N_go 13 = .ok (.ldc2_w 59, 3) := by decide +kernel
theorem d_N_go_16 : decode b_N_go 16 = .ok (.invokestatic 61, 3) := by decide +kernel
theorem d_N_go_19 : decode b_N_go 19 = .ok (.lstore_n 3, 1) := by decide +kernel
theorem d_N_go_20 : decode b_N_go 20 = .ok (.lload_n 3, 1) := by decide +kernel
theorem d_N_go_21 : decode b_N_go 21 = .ok (.lconst 0, 1) := by decide +kernel
theorem d_N_go_22 : decode b_N_go 22 = .ok (.lcmp, 1) := by decide +kernel
theorem d_N_go_23 : decode b_N_go 23 = .ok (.ifCond .ne 4, 3) := by decide +kernel
theorem d_N_go_26 : decode b_N_go 26 = .ok (.return_, 1) := by decide +kernel
theorem d_N_go_27 : decode b_N_go 27 = .ok (.lload_n 3, 1) := by decide +kernel
theorem d_N_go_28 : decode b_N_go 28 = .ok (.lconst 0, 1) := by decide +kernel
theorem d_N_go_29 : decode b_N_go 29 = .ok (.lcmp, 1) := by decide +kernel
theorem d_N_go_30 : decode b_N_go 30 = .ok (.ifCond .ge 8, 3) := by decide +kernel
theorem d_N_go_33 : decode b_N_go 33 = .ok (.lload_n 3, 1) := by decide +kernel
theorem d_N_go_34 : decode b_N_go 34 = .ok (.lneg, 1) := by decide +kernel
theorem d_N_go_35 : decode b_N_go 35 = .ok (.goto 4, 3) := by decide +kernel
theorem d_N_go_38 : decode b_N_go 38 = .ok (.lload_n 3, 1) := by decide +kernel
theorem d_N_go_39 : decode b_N_go 39 = .ok (.lstore 5, 2) := by decide +kernel
theorem d_N_go_41 : decode b_N_go 41 = .ok (.aload_n 0, 1) := by decide +kernel
theorem d_N_go_42 : decode b_N_go 42 = .ok (.iload_n 1, 1) := by decide +kernel
theorem d_N_go_43 : decode b_N_go 43 = .ok (.iload_n 2, 1) := by decide +kernel
theorem d_N_go_44 : decode b_N_go 44 = .ok (.lload_n 3, 1) := by decide +kernel
theorem d_N_go_45 : decode b_N_go 45 = .ok (.lconst 0, 1) := by decide +kernel
theorem d_N_go_46 : decode b_N_go 46 = .ok (.lcmp, 1) := by decide +kernel
theorem d_N_go_47 : decode b_N_go 47 = .ok (.ifCond .le 7, 3) := by decide +kernel
theorem d_N_go_50 : decode b_N_go 50 = .ok (.iconst 1, 1) := by decide +kernel
theorem d_N_go_51 : decode b_N_go 51 = .ok (.goto 4, 3) := by decide +kernel
theorem d_N_go_54 : decode b_N_go 54 = .ok (.iconst 0, 1) := by decide +kernel
theorem d_N_go_55 : decode b_N_go 55 = .ok (.invokevirtual 182, 3) := by decide +kernel
theorem d_N_go_58 : decode b_N_go 58 = .ok (.aload_n 0, 1) := by decide +kernel
theorem d_N_go_59 : decode b_N_go 59 = .ok (.getfield 169, 3) := by decide +kernel
theorem d_N_go_62 : decode b_N_go 62 = .ok (.bipush (-2), 2) := by decide +kernel
theorem d_N_go_64 : decode b_N_go 64 = .ok (.if_icmp .eq 17, 3) := by decide +kernel
theorem d_N_go_67 : decode b_N_go 67 = .ok (.aload_n 0, 1) := by decide +kernel
theorem d_N_go_68 : decode b_N_go 68 = .ok (.getfield 172, 3) := by decide +kernel
theorem d_N_go_71 : decode b_N_go 71 = .ok (.lload 5, 2) := by decide +kernel
theorem d_N_go_73 : decode b_N_go 73 = .ok (.lcmp, 1) := by decide +kernel
theorem d_N_go_74 : decode b_N_go 74 = .ok (.ifCond .ge 7, 3) := by decide +kernel
theorem d_N_go_77 : decode b_N_go 77 = .ok (.iconst 1, 1) := by decide +kernel
theorem d_N_go_78 : decode b_N_go 78 = .ok (.goto 4, 3) := by decide +kernel
theorem d_N_go_81 : decode b_N_go 81 = .ok (.iconst 0, 1) := by decide +kernel
theorem d_N_go_82 : decode b_N_go 82 = .ok (.istore 7, 2) := by decide +kernel
theorem d_N_go_84 : decode b_N_go 84 = .ok (.aload_n 0, 1) := by decide +kernel
theorem d_N_go_85 : decode b_N_go 85 = .ok (.getfield 169, 3) := by decide +kernel
theorem d_N_go_88 : decode b_N_go 88 = .ok (.istore 8, 2) := by decide +kernel
theorem d_N_go_90 : decode b_N_go 90 = .ok (.iload 7, 2) := by decide +kernel
theorem d_N_go_92 : decode b_N_go 92 = .ok (.ifCond .eq 10, 3) := by decide +kernel
theorem d_N_go_95 : decode b_N_go 95 = .ok (.aload_n 0, 1) := by decide +kernel
theorem d_N_go_96 : decode b_N_go 96 = .ok (.getfield 172, 3) := by decide +kernel
theorem d_N_go_99 : decode b_N_go 99 = .ok (.goto 5, 3) := by decide +kernel
theorem d_N_go_102 : decode b_N_go 102 = .ok (.lload 5, 2) := by decide +kernel
theorem d_N_go_104 : decode b_N_go 104 = .ok (.lstore 9, 2) := by decide +kernel
theorem d_N_go_106 : decode b_N_go 106 = .ok (.aload_n 0, 1) := by decide +kernel
theorem d_N_go_107 : decode b_N_go 107 = .ok (.getfield 7, 3) := by decide +kernel
theorem d_N_go_110 : decode b_N_go 110 = .ok (.bipush 16, 2) := by decide +kernel
theorem d_N_go_112 : decode b_N_go 112 = .ok (.iload_n 1, 1) := by decide +kernel
theorem d_N_go_113 : decode b_N_go 113 = .ok (.imul, 1) := by decide +kernel
theorem d_N_go_114 : decode b_N_go 114 = .ok (.iload_n 2, 1) := by decide +kernel
theorem d_N_go_115 : decode b_N_go 115 = .ok (.iadd, 1) := by decide +kernel
theorem d_N_go_116 : decode b_N_go 116 = .ok (.aload_n 0, 1) := by decide +kernel
theorem d_N_go_117 : decode b_N_go 117 = .ok (.getfield 7, 3) := by decide +kernel
theorem d_N_go_120 : decode b_N_go 120 = .ok (.bipush 16, 2) := by decide +kernel
theorem d_N_go_122 : decode b_N_go 122 = .ok (.iload_n 1, 1) := by decide +kernel
theorem d_N_go_123 : decode b_N_go 123 = .ok (.imul, 1) := by decide +kernel
theorem d_N_go_124 : decode b_N_go 124 = .ok (.iload_n 2, 1) := by decide +kernel
theorem d_N_go_125 : decode b_N_go 125 = .ok (.iadd, 1) := by decide +kernel
theorem d_N_go_126 : decode b_N_go 126 = .ok (.laload, 1) := by decide +kernel
theorem d_N_go_127 : decode b_N_go 127 = .ok (.lload_n 3, 1) := by decide +kernel
theorem d_N_go_128 : decode b_N_go 128 = .ok (.lconst 0, 1) := by decide +kernel
theorem d_N_go_129 : decode b_N_go 129 = .ok (.lcmp, 1) := by decide +kernel
theorem d_N_go_130 : decode b_N_go 130 = .ok (.ifCond .le 8, 3) := by decide +kernel
theorem d_N_go_133 : decode b_N_go 133 = .ok (.lload 9, 2) := by decide +kernel
theorem d_N_go_135 : decode b_N_go 135 = .ok (.goto 6, 3) := by decide +kernel
theorem d_N_go_138 : decode b_N_go 138 = .ok (.lload 9, 2) := by decide +kernel
theorem d_N_go_140 : decode b_N_go 140 = .ok (.lneg, 1) := by decide +kernel
theorem d_N_go_141 : decode b_N_go 141 = .ok (.ladd, 1) := by decide +kernel
theorem d_N_go_142 : decode b_N_go 142 = .ok (.invokestatic 117, 3) := by decide +kernel
theorem d_N_go_145 : decode b_N_go 145 = .ok (.lastore, 1) := by decide +kernel
theorem d_N_go_146 : decode b_N_go 146 = .ok (.iload 7, 2) := by decide +kernel
theorem d_N_go_148 : decode b_N_go 148 = .ok (.ifCond .ne 4, 3) := by decide +kernel
theorem d_N_go_151 : decode b_N_go 151 = .ok (.return_, 1) := by decide +kernel
theorem d_N_go_152 : decode b_N_go 152 = .ok (.aload_n 0, 1) := by decide +kernel
theorem d_N_go_153 : decode b_N_go 153 = .ok (.dup, 1) := by decide +kernel
theorem d_N_go_154 : decode b_N_go 154 = .ok (.getfield 186, 3) := by decide +kernel
theorem d_N_go_157 : decode b_N_go 157 = .ok (.iconst 1, 1) := by decide +kernel
theorem d_N_go_158 : decode b_N_go 158 = .ok (.iadd, 1) := by decide +kernel
theorem d_N_go_159 : decode b_N_go 159 = .ok (.putfield 186, 3) := by decide +kernel
theorem d_N_go_162 : decode b_N_go 162 = .ok (.aload_n 0, 1) := by decide +kernel
theorem d_N_go_163 : decode b_N_go 163 = .ok (.getfield 7, 3) := by decide +kernel
theorem d_N_go_166 : decode b_N_go 166 = .ok (.bipush 16, 2) := by decide +kernel
theorem d_N_go_168 : decode b_N_go 168 = .ok (.iload_n 1, 1) := by decide +kernel
theorem d_N_go_169 : decode b_N_go 169 = .ok (.imul, 1) := by decide +kernel
theorem d_N_go_170 : decode b_N_go 170 = .ok (.iconst 2, 1) := by decide +kernel
theorem d_N_go_171 : decode b_N_go 171 = .ok (.iadd, 1) := by decide +kernel
theorem d_N_go_172 : decode b_N_go 172 = .ok (.iload_n 2, 1) := by decide +kernel
theorem d_N_go_173 : decode b_N_go 173 = .ok (.iadd, 1) := by decide +kernel
theorem d_N_go_174 : decode b_N_go 174 = .ok (.laload, 1) := by decide +kernel
theorem d_N_go_175 : decode b_N_go 175 = .ok (.lstore 11, 2) := by decide +kernel
theorem d_N_go_177 : decode b_N_go 177 = .ok (.aload_n 0, 1) := by decide +kernel
theorem d_N_go_178 : decode b_N_go 178 = .ok (.getfield 7, 3) := by decide +kernel
theorem d_N_go_181 : decode b_N_go 181 = .ok (.bipush 16, 2) := by decide +kernel
theorem d_N_go_183 : decode b_N_go 183 = .ok (.iload_n 1, 1) := by decide +kernel
theorem d_N_go_184 : decode b_N_go 184 = .ok (.imul, 1) := by decide +kernel
theorem d_N_go_185 : decode b_N_go 185 = .ok (.iconst 2, 1) := by decide +kernel
theorem d_N_go_186 : decode b_N_go 186 = .ok (.iadd, 1) := by decide +kernel
theorem d_N_go_187 : decode b_N_go 187 = .ok (.iload_n 2, 1) := by decide +kernel
theorem d_N_go_188 : decode b_N_go 188 = .ok (.iadd, 1) := by decide +kernel
theorem d_N_go_189 : decode b_N_go 189 = .ok (.aload_n 0, 1) := by decide +kernel
theorem d_N_go_190 : decode b_N_go 190 = .ok (.getfield 7, 3) := by decide +kernel
theorem d_N_go_193 : decode b_N_go 193 = .ok (.bipush 16, 2) := by decide +kernel
theorem d_N_go_195 : decode b_N_go 195 = .ok (.iload_n 1, 1) := by decide +kernel
theorem d_N_go_196 : decode b_N_go 196 = .ok (.imul, 1) := by decide +kernel
theorem d_N_go_197 : decode b_N_go 197 = .ok (.bipush 6, 2) := by decide +kernel
theorem d_N_go_199 : decode b_N_go 199 = .ok (.iadd, 1) := by decide +kernel
theorem d_N_go_200 : decode b_N_go 200 = .ok (.laload, 1) := by decide +kernel
theorem d_N_go_201 : decode b_N_go 201 = .ok (.invokestatic 113, 3) := by decide +kernel
theorem d_N_go_204 : decode b_N_go 204 = .ok (.iconst 3, 1) := by decide +kernel
theorem d_N_go_205 : decode b_N_go 205 = .ok (.if_icmp .ne 18, 3) := by decide +kernel
theorem d_N_go_208 : decode b_N_go 208 = .ok (.lload 11, 2) := by decide +kernel
theorem d_N_go_210 : decode b_N_go 210 = .ok (.lneg, 1) := by decide +kernel
theorem d_N_go_211 : decode b_N_go 211 = .ok (.ldc2_w 189, 3) := by decide +kernel
theorem d_N_go_214 : decode b_N_go 214 = .ok (.invokestatic 61, 3) := by decide +kernel
theorem d_N_go_217 : decode b_N_go 217 = .ok (.invokestatic 117, 3) := by decide +kernel
theorem d_N_go_220 : decode b_N_go 220 = .ok (.goto 4, 3) := by decide +kernel
theorem d_N_go_223 : decode b_N_go 223 = .ok (.lconst 0, 1) := by decide +kernel
theorem d_N_go_224 : decode b_N_go 224 = .ok (.lastore, 1) := by decide +kernel
theorem d_N_go_225 : decode b_N_go 225 = .ok (.aload_n 0, 1) := by decide +kernel
theorem d_N_go_226 : decode b_N_go 226 = .ok (.iload_n 1, 1) := by decide +kernel
theorem d_N_go_227 : decode b_N_go 227 = .ok (.iload 8, 2) := by decide +kernel
theorem d_N_go_229 : decode b_N_go 229 = .ok (.invokevirtual 191, 3) := by decide +kernel
theorem d_N_go_232 : decode b_N_go 232 = .ok (.iload 8, 2) := by decide +kernel
theorem d_N_go_234 : decode b_N_go 234 = .ok (.ifCond .lt 29, 3) := by decide +kernel
theorem d_N_go_237 : decode b_N_go 237 = .ok (.aload_n 0, 1) := by decide +kernel
theorem d_N_go_238 : decode b_N_go 238 = .ok (.getfield 13, 3) := by decide +kernel
theorem d_N_go_241 : decode b_N_go 241 = .ok (.iload_n 1, 1) := by decide +kernel
theorem d_N_go_242 : decode b_N_go 242 = .ok (.baload, 1) := by decide +kernel
theorem d_N_go_243 : decode b_N_go 243 = .ok (.ifCond .eq 20, 3) := by decide +kernel
theorem d_N_go_246 : decode b_N_go 246 = .ok (.aload_n 0, 1) := by decide +kernel
theorem d_N_go_247 : decode b_N_go 247 = .ok (.getfield 13, 3) := by decide +kernel
theorem d_N_go_250 : decode b_N_go 250 = .ok (.iload 8, 2) := by decide +kernel
theorem d_N_go_252 : decode b_N_go 252 = .ok (.baload, 1) := by decide +kernel
theorem d_N_go_253 : decode b_N_go 253 = .ok (.ifCond .eq 10, 3) := by decide +kernel
theorem d_N_go_256 : decode b_N_go 256 = .ok (.aload_n 0, 1) := by decide +kernel
theorem d_N_go_257 : decode b_N_go 257 = .ok (.iload 8, 2) := by decide +kernel
theorem d_N_go_259 : decode b_N_go 259 = .ok (.iload_n 1, 1) := by decide +kernel
theorem d_N_go_260 : decode b_N_go 260 = .ok (.invokevirtual 191, 3) := by decide +kernel
theorem d_N_go_263 : decode b_N_go 263 = .ok (.return_, 1) := by decide +kernel
def f_N_go_224  (g : Sm) (x1 : Int32) (x8 : Int32) (y1 : Int32) (y2 : Int64) : Option (Unit × Sm) := (qs_in (y1) 192 (qs_st (qm_la g 1 y1.toNatClampNeg (y2)) fun u25 => (qs_bn (f_N_touch u25 (x1) (x8)) fun _ u27 => (if x8 < 0 then (some ((), u27)) else (qs_in (x1) 12 (if (u27.1 2 x1.toNatClampNeg) = 0 then (some ((), u27)) else (qs_in (x8) 12 (if (u27.1 2 x8.toNatClampNeg) = 0 then (some ((), u27)) else (qs_bn (f_N_touch u27 (x8) (x1)) fun _ u34 => (some ((), u34)))))))))))
def f_N_go_141  (g : Sm) (x1 : Int32) (x2 : Int32) (x7 : Int32) (x8 : Int32) (y1 : Int32) (y2 : Int64) (y3 : Int64) : Option (Unit × Sm) := (qs_pb (f_N_clamp (y2 + y3)) fun r13 => (qs_in (y1) 192 (qs_st (qm_la g 1 y1.toNatClampNeg (r13)) fun u15 => (if x7 = 0 then (some ((), u15)) else (qs_st (qm_i u15 26 ((u15.1 26 0) + 1)) fun u17 => (qs_in (((16 * x1) + 2) + x2) 192 (qs_in ((16 * x1) + 6) 192 (qs_pb (f_N_whole (u17.2 1 ((16 * x1) + 6).toNatClampNeg)) fun r20 => (if r20 = 3 then (qs_pb (f_N_down (-(u17.2 1 (((16 * x1) + 2) + x2).toNatClampNeg)) ((2 : Int64))) fun r22 => (qs_pb (f_N_clamp (r22)) fun r23 => (f_N_go_224 u17 (x1) (x8) (((16 * x1) + 2) + x2) (r23)))) else (f_N_go_224 u17 (x1) (x8) (((16 * x1) + 2) + x2) ((0 : Int64))))))))))))
def f_N_go_104  (g : Sm) (x1 : Int32) (x2 : Int32) (x3 : Int64) (x7 : Int32) (x8 : Int32) (y0 : Int64) : Option (Unit × Sm) := (qs_in ((16 * x1) + x2) 192 (if (lg_cmp x3 (0 : Int64)) ≤ 0 then (f_N_go_141 g (x1) (x2) (x7) (x8) ((16 * x1) + x2) (g.2 1 ((16 * x1) + x2).toNatClampNeg) (-y0)) else (f_N_go_141 g (x1) (x2) (x7) (x8) ((16 * x1) + x2) (g.2 1 ((16 * x1) + x2).toNatClampNeg) (y0))))
def f_N_go_82  (g : Sm) (x1 : Int32) (x2 : Int32) (x3 : Int64) (x5 : Int64) (y0 : Int32) : Option (Unit × Sm) := (if y0 = 0 then (f_N_go_104 g (x1) (x2) (x3) (y0) (g.1 27 0) (x5)) else (f_N_go_104 g (x1) (x2) (x3) (y0) (g.1 27 0) (g.2 28 0)))
def f_N_go_81  (g : Sm) (x1 : Int32) (x2 : Int32) (x3 : Int64) (x5 : Int64) : Option (Unit × Sm) := (f_N_go_82 g (x1) (x2) (x3) (x5) (0))
def f_N_go_55  (g : Sm) (x1 : Int32) (x2 : Int32) (x3 : Int64) (x5 : Int64) (y1 : Int32) (y2 : Int32) (y3 : Int32) : Option (Unit × Sm) := (qs_bn (f_N_blockers g (y1) (y2) (y3)) fun _ u7 => (if (u7.1 27 0) = (-2) then (f_N_go_81 u7 (x1) (x2) (x3) (x5)) else (if 0 ≤ (lg_cmp (u7.2 28 0) x5) then (f_N_go_81 u7 (x1) (x2) (x3) (x5)) else (f_N_go_82 u7 (x1) (x2) (x3) (x5) (1)))))
def f_N_go_39  (g : Sm) (x1 : Int32) (x2 : Int32) (x3 : Int64) (y0 : Int64) : Option (Unit × Sm) := (if (lg_cmp x3 (0 : Int64)) ≤ 0 then (f_N_go_55 g (x1) (x2) (x3) (y0) (x1) (x2) (0)) else (f_N_go_55 g (x1) (x2) (x3) (y0) (x1) (x2) (1)))
def f_N_go (g : Sm) (a1 : Int32) (a2 : Int32) : Option (Unit × Sm) := (qs_in (((16 * a1) + 2) + a2) 192 (qs_pb (f_N_down (g.2 1 (((16 * a1) + 2) + a2).toNatClampNeg) ((8 : Int64))) fun r2 => (if (lg_cmp r2 (0 : Int64)) = 0 then (some ((), g)) else (if 0 ≤ (lg_cmp r2 (0 : Int64)) then (f_N_go_39 g (a1) (a2) (r2) (r2)) else (f_N_go_39 g (a1) (a2) (r2) (-r2))))))
set_option maxHeartbeats 4000000 in
set_option maxRecDepth 100000 in
theorem c_N_go (l : Launch) (dC : Nat → ClassId) (dI : Nat → Nat → Nat) (h : Nat → Nat) (c : Nat → ClassId) (sz : Nat) (g : Sm) (a1 : Int32) (a2 : Int32) (u0 : Sm) (hF : f_N_go g a1 a2 = some ((), u0)) : Met l y_N_go (qs_ws y_N_go b_N_go 13 none) ({ frames := 7, cells := 0, slots := 0, locals := 175 } : Room) (va_Pc ([.ref (h 0), .int a1, .int a2] : List Value) (fun U => U.heap.size = sz ∧ va_P (dC, dI) vwCl (ms_W h c g) U.heap ∧ va_K (dC, dI) vwCl (ms_T c) U ∧ va_D (fun _ => True) (ms_W h c g) ∧ qs_N U)) (va_Qv (fun (u : Sm) => u = u0) (ms_at dC dI h c (va_A (ms_W h c g) sz)) (va_A (ms_W h c g) sz)) 0 0 (va_A (ms_W h c g) sz) := by
  refine Met.ofW (cc := b_N_go) (maxL := 13) (ret := none) (by decide +kernel) rfl ?_
  intro p e s m args below meth cd s₁ B hml hv
  obtain ⟨rfl, hsz, hP, hK, hD0, hNs⟩ := hv
  have hx := B.exec
  have hb := B.bytes
  have hr := B.returns
  have hts := atoms_spec (ws := (qs_ws y_N_go b_N_go 13 none)) B.pre
  have hg : ∀ w ∈ qs_gt, w.before _ s = true := fun w h => hts w (List.mem_cons_of_mem _ h)
  have hown : s.vm.findClass R_N = some m.cls := findClass_of_methodNamed B.named
  have hlocks := B.notSynchronized
  subst hsz
  have hD := hD0.self (sz := s.heap.size)
  generalize hAe : va_A (ms_W h c g) s.heap.size = A at hD ⊢
  have hA : ∀ q : Nat, s.heap.size ≤ q → A q := fun q h => by rw [← hAe]; exact Or.inr h
  have hS : va_S A s.heap s.heap [] := va_S.rf
  have kb_224 : ∀ (g : Sm) (x1 : Int32) (x8 : Int32) (y1 : Int32) (y2 : Int64) (H : Heap) (locs : List Loc) (ls : Array Slot), va_P (dC, dI) vwCl (ms_W h c g) H → va_D A (ms_W h c g) → va_S A s.heap H locs → lv_has ls 13 [(0, .ref (h 0)), (1, .int (x1)), (8, .int (x8))] → f_N_go_224  g x1 x8 y1 y2 = some ((), u0) → W p l e (headSpec (qs_ws y_N_go b_N_go 13 none) ({ frames := 7, cells := 0, slots := 0, locals := 175 } : Room)).room s m ([.ref (h 0), .int a1, .int a2] : List Value).toArray below meth cd H locs 0 0 (MQ below (va_Qv (fun (u : Sm) => u = u0) (ms_at dC dI h c A) A) ([.ref (h 0), .int a1, .int a2] : List Value).toArray s 0 0 A) (F0 m 224 ls [.long (y2), .int (y1), .ref (h 1)]) := by
    intro g x1 x8 y1 y2 H locs ls hP hD hS hl hF
    unfold f_N_go_224 at hF
    obtain ⟨c24, hF⟩ := qs_in_some hF
    refine va_last hx hb hK hP hD hS 1 0 rfl rfl c24 d_N_go_224 (fun H locs hP hD hS => ?_)
    obtain ⟨u25, hu25, hF⟩ := qs_st_some hF
    have hP : va_P (dC, dI) vwCl (ms_W h c u25) H := by rw [hu25]; exact hP
    have hD : va_D A (ms_W h c u25) := by rw [hu25]; exact hD
    clear hu25
    refine lv_aload_n hx hb d_N_go_225 rfl (lv_at hl 0 rfl) ?_
    refine lv_iload_n hx hb d_N_go_226 rfl (lv_at hl 1 rfl) ?_
    refine lv_iload hx hb d_N_go_227 (lv_at hl 2 rfl) ?_
    obtain ⟨r26, u27, hX, hF⟩ := qs_bn_some hF
    refine qs_cv (Wd := ms_W h c) (isC := [0, 1, 2, 3, 4, 5, 6, 7, 8, 9, 10, 11, 12]) (va_runV (own := "QuakeServerModel") (C := "QuakeServerModel") (As := [.int (x1), .int (x8)]) (rest := []) ⟨hx, hb, hml, hown, hg⟩ (c_N_touch l dC dI h c H.size u25 (x1) (x8)  u27 hX) (cwV 2 hg (qs_gV t_833 t_835 tp_33 t_8 t_836) rfl rfl rfl (by decide +kernel) ⟨Nat.le_of_ble_eq_true rfl, Nat.le_of_ble_eq_true rfl⟩) ⟨qs_blind, va_recv hK hP (ci := 7) (q0 := 0) rfl rfl, fun U hU hW => ⟨rfl, by rw [hU], by rw [hU]; exact hP, va_K.moved hW.alike hK, hD.weaken (fun _ _ _ _ => trivial), hNs.warm hW⟩⟩ rfl rfl hl.1 rfl (lv_room (Nat.le_of_ble_eq_true rfl)) d_N_go_229 ⟨Nat.le_of_ble_eq_true rfl, Nat.le_of_ble_eq_true rfl⟩) rfl hP hD hS hA (fun H locs hP hD hS => ?_)
    refine lv_iload hx hb d_N_go_232 (lv_at hl 2 rfl) ?_
    refine lv_if_lt (tgt := 263) hx hb d_N_go_234 (by decide) (fun c28 => ?_) (fun c28 => ?_)
    · have hF := qs_pos c28 hF
      obtain ⟨h8, h9⟩ := qs_ret hF
      exact W.vret hx hb hr (fun t ht hW => ⟨⟨u27, rfl, h9, by rw [ht]; exact hP, va_K.moved hW.alike hK, hD⟩, hS.F ht⟩) hS.2.2 d_N_go_263
    · have hF := qs_neg c28 hF
      refine lv_aload_n hx hb d_N_go_237 rfl (lv_at hl 0 rfl) ?_
      refine va_get (D := (dC, dI)) (ci := 7) (v := .ref (h 2)) (C := R_N) (T := T_N) (N := 22) hx hb hg in_N hown hK hP 0 rfl rfl 2 (by decide) (hg _ t_620) (fun _ h9 => h9) rfl d_N_go_238 ?_
      refine lv_iload_n hx hb d_N_go_241 rfl (lv_at hl 1 rfl) ?_
      obtain ⟨c29, hF⟩ := qs_in_some hF
      refine va_zald hx hb hK hP 2 1 rfl rfl c29 d_N_go_242 ?_
      refine lv_if_eq (tgt := 263) hx hb d_N_go_243 (by decide) (fun c30 => ?_) (fun c30 => ?_)
      · have hF := qs_pos c30 hF
        obtain ⟨h8, h9⟩ := qs_ret hF
        exact W.vret hx hb hr (fun t ht hW => ⟨⟨u27, rfl, h9, by rw [ht]; exact hP, va_K.moved hW.alike hK, hD⟩, hS.F ht⟩) hS.2.2 d_N_go_263
      · have hF := qs_neg c30 hF
        refine lv_aload_n hx hb d_N_go_246 rfl (lv_at hl 0 rfl) ?_
        refine va_get (D := (dC, dI)) (ci := 7) (v := .ref (h 2)) (C := R_N) (T := T_N) (N := 22) hx hb hg in_N hown hK hP 0 rfl rfl 2 (by decide) (hg _ t_620) (fun _ h9 => h9) rfl d_N_go_247 ?_
        refine lv_iload hx hb d_N_go_250 (lv_at hl 2 rfl) ?_
        obtain ⟨c31, hF⟩ := qs_in_some hF
        refine va_zald hx hb hK hP 2 1 rfl rfl c31 d_N_go_252 ?_
        refine lv_if_eq (tgt := 263) hx hb d_N_go_253 (by decide) (fun c32 => ?_) (fun c32 => ?_)
        · have hF := qs_pos c32 hF
          obtain ⟨h8, h9⟩ := qs_ret hF
          exact W.vret hx hb hr (fun t ht hW => ⟨⟨u27, rfl, h9, by rw [ht]; exact hP, va_K.moved hW.alike hK, hD⟩, hS.F ht⟩) hS.2.2 d_N_go_263
        · have hF := qs_neg c32 hF
          refine lv_aload_n hx hb d_N_go_256 rfl (lv_at hl 0 rfl) ?_
          refine lv_iload hx hb d_N_go_257 (lv_at hl 2 rfl) ?_
          refine lv_iload_n hx hb d_N_go_259 rfl (lv_at hl 1 rfl) ?_
          obtain ⟨r33, u34, hX, hF⟩ := qs_bn_some hF
          refine qs_cv (Wd := ms_W h c) (isC := [0, 1, 2, 3, 4, 5, 6, 7, 8, 9, 10, 11, 12]) (va_runV (own := "QuakeServerModel") (C := "QuakeServerModel") (As := [.int (x8), .int (x1)]) (rest := []) ⟨hx, hb, hml, hown, hg⟩ (c_N_touch l dC dI h c H.size u27 (x8) (x1)  u34 hX) (cwV 2 hg (qs_gV t_833 t_835 tp_33 t_8 t_836) rfl rfl rfl (by decide +kernel) ⟨Nat.le_of_ble_eq_true rfl, Nat.le_of_ble_eq_true rfl⟩) ⟨qs_blind, va_recv hK hP (ci := 7) (q0 := 0) rfl rfl, fun U hU hW => ⟨rfl, by rw [hU], by rw [hU]; exact hP, va_K.moved hW.alike hK, hD.weaken (fun _ _ _ _ => trivial), hNs.warm hW⟩⟩ rfl rfl hl.1 rfl (lv_room (Nat.le_of_ble_eq_true rfl)) d_N_go_260 ⟨Nat.le_of_ble_eq_true rfl, Nat.le_of_ble_eq_true rfl⟩) rfl hP hD hS hA (fun H locs hP hD hS => ?_)
          obtain ⟨h8, h9⟩ := qs_ret hF
          exact W.vret hx hb hr (fun t ht hW => ⟨⟨u34, rfl, h9, by rw [ht]; exact hP, va_K.moved hW.alike hK, hD⟩, hS.F ht⟩) hS.2.2 d_N_go_263
  have kb_141 : ∀ (g : Sm) (x1 : Int32) (x2 : Int32) (x7 : Int32) (x8 : Int32) (y1 : Int32) (y2 : Int64) (y3 : Int64) (H : Heap) (locs : List Loc) (ls : Array Slot), va_P (dC, dI) vwCl (ms_W h c g) H → va_D A (ms_W h c g) → va_S A s.heap H locs → lv_has ls 13 [(0, .ref (h 0)), (1, .int (x1)), (2, .int (x2)), (7, .int (x7)), (8, .int (x8))] → f_N_go_141  g x1 x2 x7 x8 y1 y2 y3 = some ((), u0) → W p l e (headSpec (qs_ws y_N_go b_N_go 13 none) ({ frames := 7, cells := 0, slots := 0, locals := 175 } : Room)).room s m ([.ref (h 0), .int a1, .int a2] : List Value).toArray below meth cd H locs 0 0 (MQ below (va_Qv (fun (u : Sm) => u = u0) (ms_at dC dI h c A) A) ([.ref (h 0), .int a1, .int a2] : List Value).toArray s 0 0 A) (F0 m 141 ls [.long (y3), .long (y2), .int (y1), .ref (h 1)]) := by
    intro g x1 x2 x7 x8 y1 y2 y3 H locs ls hP hD hS hl hF
    unfold f_N_go_141 at hF
    refine lv_ladd hx hb d_N_go_141 ?_
    obtain ⟨r13, hX, hF⟩ := qs_pb_some hF
    refine qs_psl (va_runS (own := "QuakeServerModel") (As := [.long (y2 + y3)]) (rest := [.int (y1), .ref (h 1)]) ⟨hx, hb, hml, hown, hg⟩ (c_N_clamp l H.size (y2 + y3) r13 hX) (va_cwS 1 hg (qs_gS t_783 t_784 t_8 t_785) rfl rfl rfl (by decide +kernel) ⟨Nat.le_of_ble_eq_true rfl, Nat.le_of_ble_eq_true rfl⟩) ⟨qs_blind0, fun U hU hW => ⟨rfl, by rw [hU], hNs.warm hW⟩⟩ rfl rfl hl.1 rfl (lv_room (Nat.le_of_ble_eq_true rfl)) d_N_go_142 ⟨Nat.le_of_ble_eq_true rfl, Nat.le_of_ble_eq_true rfl⟩) hP hD hS hA (fun H locs hP hS => ?_)
    obtain ⟨c14, hF⟩ := qs_in_some hF
    refine va_last hx hb hK hP hD hS 1 0 rfl rfl c14 d_N_go_145 (fun H locs hP hD hS => ?_)
    obtain ⟨u15, hu15, hF⟩ := qs_st_some hF
    have hP : va_P (dC, dI) vwCl (ms_W h c u15) H := by rw [hu15]; exact hP
    have hD : va_D A (ms_W h c u15) := by rw [hu15]; exact hD
    clear hu15
    refine lv_iload hx hb d_N_go_146 (lv_at hl 3 rfl) ?_
    refine lv_if_ne (tgt := 152) hx hb d_N_go_148 (by decide) (fun c16 => ?_) (fun c16 => ?_)
    · have hF := qs_neg c16 hF
      refine lv_aload_n hx hb d_N_go_152 rfl (lv_at hl 0 rfl) ?_
      refine lv_dup hx hb d_N_go_153 rfl ?_
      refine va_get (D := (dC, dI)) (ci := 7) (v := .int (u15.1 26 0)) (C := R_N) (T := T_N) (N := 22) hx hb hg in_N hown hK hP 0 rfl rfl 17 (by decide) (hg _ t_635) (fun _ h9 => h9) rfl d_N_go_154 ?_
      refine lv_iconst (v := 1) hx hb d_N_go_157 (by decide) ?_
      refine lv_iadd hx hb d_N_go_158 ?_
      refine va_put (D := (dC, dI)) (ci := 7) (v := .int ((u15.1 26 0) + 1)) (ty := .int) (C := R_N) (T := T_N) (N := 22) hx hb hg in_N ty_N ty_N_ok nm_N hown hK hP hD hS 0 rfl rfl 17 (by decide) (hg _ t_635) (fun _ h9 => h9) rfl (by decide +kernel) rfl rfl (Nat.le_of_ble_eq_true rfl) d_N_go_159 (fun H locs hP hD hS => ?_)
      obtain ⟨u17, hu17, hF⟩ := qs_st_some hF
      have hP : va_P (dC, dI) vwCl (ms_W h c u17) H := by rw [hu17]; exact hP
      have hD : va_D A (ms_W h c u17) := by rw [hu17]; exact hD
      clear hu17
      refine lv_aload_n hx hb d_N_go_162 rfl (lv_at hl 0 rfl) ?_
      refine va_get (D := (dC, dI)) (ci := 7) (v := .ref (h 1)) (C := R_N) (T := T_N) (N := 22) hx hb hg in_N hown hK hP 0 rfl rfl 1 (by decide) (hg _ t_619) (fun _ h9 => h9) rfl d_N_go_163 ?_
      refine lv_bipush (v := 16) hx hb d_N_go_166 (by decide) ?_
      refine lv_iload_n hx hb d_N_go_168 rfl (lv_at hl 1 rfl) ?_
      refine lv_imul hx hb d_N_go_169 ?_
      refine lv_iconst (v := 2) hx hb d_N_go_170 (by decide) ?_
      refine lv_iadd hx hb d_N_go_171 ?_
      refine lv_iload_n hx hb d_N_go_172 rfl (lv_at hl 2 rfl) ?_
      refine lv_iadd hx hb d_N_go_173 ?_
      obtain ⟨c18, hF⟩ := qs_in_some hF
      refine va_lald hx hb hK hP 1 0 rfl rfl c18 d_N_go_174 ?_
      refine lv_lstore (lv' := [(11, .long (u17.2 1 (((16 * x1) + 2) + x2).toNatClampNeg)), (0, .ref (h 0)), (1, .int (x1)), (2, .int (x2)), (7, .int (x7)), (8, .int (x8))]) hx hb d_N_go_175 hl (by decide) rfl (fun ls hl => ?_)
      refine lv_aload_n hx hb d_N_go_177 rfl (lv_at hl 1 rfl) ?_
      refine va_get (D := (dC, dI)) (ci := 7) (v := .ref (h 1)) (C := R_N) (T := T_N) (N := 22) hx hb hg in_N hown hK hP 0 rfl rfl 1 (by decide) (hg _ t_619) (fun _ h9 => h9) rfl d_N_go_178 ?_
      refine lv_bipush (v := 16) hx hb d_N_go_181 (by decide) ?_
      refine lv_iload_n hx hb d_N_go_183 rfl (lv_at hl 2 rfl) ?_
      refine lv_imul hx hb d_N_go_184 ?_
      refine lv_iconst (v := 2) hx hb d_N_go_185 (by decide) ?_
      refine lv_iadd hx hb d_N_go_186 ?_
      refine lv_iload_n hx hb d_N_go_187 rfl (lv_at hl 3 rfl) ?_
      refine lv_iadd hx hb d_N_go_188 ?_
      refine lv_aload_n hx hb d_N_go_189 rfl (lv_at hl 1 rfl) ?_
      refine va_get (D := (dC, dI)) (ci := 7) (v := .ref (h 1)) (C := R_N) (T := T_N) (N := 22) hx hb hg in_N hown hK hP 0 rfl rfl 1 (by decide) (hg _ t_619) (fun _ h9 => h9) rfl d_N_go_190 ?_
      refine lv_bipush (v := 16) hx hb d_N_go_193 (by decide) ?_
      refine lv_iload_n hx hb d_N_go_195 rfl (lv_at hl 2 rfl) ?_
      refine lv_imul hx hb d_N_go_196 ?_
      refine lv_bipush (v := 6) hx hb d_N_go_197 (by decide) ?_
      refine lv_iadd hx hb d_N_go_199 ?_
      obtain ⟨c19, hF⟩ := qs_in_some hF
      refine va_lald hx hb hK hP 1 0 rfl rfl c19 d_N_go_200 ?_
      obtain ⟨r20, hX, hF⟩ := qs_pb_some hF
      refine qs_psi (va_runS (own := "QuakeServerModel") (As := [.long (u17.2 1 ((16 * x1) + 6).toNatClampNeg)]) (rest := [.int (((16 * x1) + 2) + x2), .ref (h 1)]) ⟨hx, hb, hml, hown, hg⟩ (c_N_whole l H.size (u17.2 1 ((16 * x1) + 6).toNatClampNeg) r20 hX) (va_cwS 1 hg (qs_gS t_773 t_774 t_8 t_775) rfl rfl rfl (by decide +kernel) ⟨Nat.le_of_ble_eq_true rfl, Nat.le_of_ble_eq_true rfl⟩) ⟨qs_blind0, fun U hU hW => ⟨rfl, by rw [hU], hNs.warm hW⟩⟩ rfl rfl hl.1 rfl (lv_room (Nat.le_of_ble_eq_true rfl)) d_N_go_201 ⟨Nat.le_of_ble_eq_true rfl, Nat.le_of_ble_eq_true rfl⟩) hP hD hS hA (fun H locs hP hS => ?_)
      refine lv_iconst (v := 3) hx hb d_N_go_204 (by decide) ?_
      refine lv_icmp_ne (tgt := 223) hx hb d_N_go_205 (by decide) (fun c21 => ?_) (fun c21 => ?_)
      · have hF := qs_neg c21 hF
        refine lv_lconst (v := 0) hx hb d_N_go_223 (by decide) ?_
        exact kb_224 u17 (x1) (x8) (((16 * x1) + 2) + x2) ((0 : Int64)) H locs ls hP hD hS (lv_sub hl [1, 2, 5] rfl) hF
      · have hF := qs_pos c21 hF
        refine lv_lload hx hb d_N_go_208 (lv_at hl 0 rfl) ?_
        refine lv_lneg hx hb d_N_go_210 ?_
        refine lv_ldc2 (v := 2) hx hb hown (hg _ t_832) d_N_go_211 ?_
        obtain ⟨r22, hX, hF⟩ := qs_pb_some hF
        refine qs_psl (va_runS (own := "QuakeServerModel") (As := [.long (-(u17.2 1 (((16 * x1) + 2) + x2).toNatClampNeg)), .long ((2 : Int64))]) (rest := [.int (((16 * x1) + 2) + x2), .ref (h 1)]) ⟨hx, hb, hml, hown, hg⟩ (c_N_down l H.size (-(u17.2 1 (((16 * x1) + 2) + x2).toNatClampNeg)) ((2 : Int64)) r22 hX) (va_cwS 2 hg (qs_gS t_776 t_777 t_8 t_778) rfl rfl rfl (by decide +kernel) ⟨Nat.le_of_ble_eq_true rfl, Nat.le_of_ble_eq_true rfl⟩) ⟨qs_blind0, fun U hU hW => ⟨rfl, by rw [hU], hNs.warm hW⟩⟩ rfl rfl hl.1 rfl (lv_room (Nat.le_of_ble_eq_true rfl)) d_N_go_214 ⟨Nat.le_of_ble_eq_true rfl, Nat.le_of_ble_eq_true rfl⟩) hP hD hS hA (fun H locs hP hS => ?_)
        obtain ⟨r23, hX, hF⟩ := qs_pb_some hF
        refine qs_psl (va_runS (own := "QuakeServerModel") (As := [.long (r22)]) (rest := [.int (((16 * x1) + 2) + x2), .ref (h 1)]) ⟨hx, hb, hml, hown, hg⟩ (c_N_clamp l H.size (r22) r23 hX) (va_cwS 1 hg (qs_gS t_783 t_784 t_8 t_785) rfl rfl rfl (by decide +kernel) ⟨Nat.le_of_ble_eq_true rfl, Nat.le_of_ble_eq_true rfl⟩) ⟨qs_blind0, fun U hU hW => ⟨rfl, by rw [hU], hNs.warm hW⟩⟩ rfl rfl hl.1 rfl (lv_room (Nat.le_of_ble_eq_true rfl)) d_N_go_217 ⟨Nat.le_of_ble_eq_true rfl, Nat.le_of_ble_eq_true rfl⟩) hP hD hS hA (fun H locs hP hS => ?_)
        refine lv_goto (tgt := 224) hx hb d_N_go_220 (by decide) ?_
        exact kb_224 u17 (x1) (x8) (((16 * x1) + 2) + x2) (r23) H locs ls hP hD hS (lv_sub hl [1, 2, 5] rfl) hF
    · have hF := qs_pos c16 hF
      obtain ⟨h8, h9⟩ := qs_ret hF
      exact W.vret hx hb hr (fun t ht hW => ⟨⟨u15, rfl, h9, by rw [ht]; exact hP, va_K.moved hW.alike hK, hD⟩, hS.F ht⟩) hS.2.2 d_N_go_151
  have kb_104 : ∀ (g : Sm) (x1 : Int32) (x2 : Int32) (x3 : Int64) (x7 : Int32) (x8 : Int32) (y0 : Int64) (H : Heap) (locs : List Loc) (ls : Array Slot), va_P (dC, dI) vwCl (ms_W h c g) H → va_D A (ms_W h c g) → va_S A s.heap H locs → lv_has ls 13 [(0, .ref (h 0)), (1, .int (x1)), (2, .int (x2)), (3, .long (x3)), (7, .int (x7)), (8, .int (x8))] → f_N_go_104  g x1 x2 x3 x7 x8 y0 = some ((), u0) → W p l e (headSpec (qs_ws y_N_go b_N_go 13 none) ({ frames := 7, cells := 0, slots := 0, locals := 175 } : Room)).room s m ([.ref (h 0), .int a1, .int a2] : List Value).toArray below meth cd H locs 0 0 (MQ below (va_Qv (fun (u : Sm) => u = u0) (ms_at dC dI h c A) A) ([.ref (h 0), .int a1, .int a2] : List Value).toArray s 0 0 A) (F0 m 104 ls [.long (y0)]) := by
    intro g x1 x2 x3 x7 x8 y0 H locs ls hP hD hS hl hF
    unfold f_N_go_104 at hF
    refine lv_lstore (lv' := [(9, .long (y0)), (0, .ref (h 0)), (1, .int (x1)), (2, .int (x2)), (3, .long (x3)), (7, .int (x7)), (8, .int (x8))]) hx hb d_N_go_104 hl (by decide) rfl (fun ls hl => ?_)
    refine lv_aload_n hx hb d_N_go_106 rfl (lv_at hl 1 rfl) ?_
    refine va_get (D := (dC, dI)) (ci := 7) (v := .ref (h 1)) (C := R_N) (T := T_N) (N := 22) hx hb hg in_N hown hK hP 0 rfl rfl 1 (by decide) (hg _ t_619) (fun _ h9 => h9) rfl d_N_go_107 ?_
    refine lv_bipush (v := 16) hx hb d_N_go_110 (by decide) ?_
    refine lv_iload_n hx hb d_N_go_112 rfl (lv_at hl 2 rfl) ?_
    refine lv_imul hx hb d_N_go_113 ?_
    refine lv_iload_n hx hb d_N_go_114 rfl (lv_at hl 3 rfl) ?_
    refine lv_iadd hx hb d_N_go_115 ?_
    refine lv_aload_n hx hb d_N_go_116 rfl (lv_at hl 1 rfl) ?_
    refine va_get (D := (dC, dI)) (ci := 7) (v := .ref (h 1)) (C := R_N) (T := T_N) (N := 22) hx hb hg in_N hown hK hP 0 rfl rfl 1 (by decide) (hg _ t_619) (fun _ h9 => h9) rfl d_N_go_117 ?_
    refine lv_bipush (v := 16) hx hb d_N_go_120 (by decide) ?_
    refine lv_iload_n hx hb d_N_go_122 rfl (lv_at hl 2 rfl) ?_
    refine lv_imul hx hb d_N_go_123 ?_
    refine lv_iload_n hx hb d_N_go_124 rfl (lv_at hl 3 rfl) ?_
    refine lv_iadd hx hb d_N_go_125 ?_
    obtain ⟨c11, hF⟩ := qs_in_some hF
    refine va_lald hx hb hK hP 1 0 rfl rfl c11 d_N_go_126 ?_
    refine lv_lload_n hx hb d_N_go_127 rfl (lv_at hl 4 rfl) ?_
    refine lv_lconst (v := 0) hx hb d_N_go_128 (by decide) ?_
    refine W.lcmp hx hb d_N_go_129 ?_
    refine lv_if_le (tgt := 138) hx hb d_N_go_130 (by decide) (fun c12 => ?_) (fun c12 => ?_)
    · have hF := qs_pos c12 hF
      refine lv_lload hx hb d_N_go_138 (lv_at hl 0 rfl) ?_
      refine lv_lneg hx hb d_N_go_140 ?_
      exact kb_141 g (x1) (x2) (x7) (x8) ((16 * x1) + x2) (g.2 1 ((16 * x1) + x2).toNatClampNeg) (-y0) H locs ls hP hD hS (lv_sub hl [1, 2, 3, 5, 6] rfl) hF
    · have hF := qs_neg c12 hF
      refine lv_lload hx hb d_N_go_133 (lv_at hl 0 rfl) ?_
      refine lv_goto (tgt := 141) hx hb d_N_go_135 (by decide) ?_
      exact kb_141 g (x1) (x2) (x7) (x8) ((16 * x1) + x2) (g.2 1 ((16 * x1) + x2).toNatClampNeg) (y0) H locs ls hP hD hS (lv_sub hl [1, 2, 3, 5, 6] rfl) hF
  have kb_82 : ∀ (g : Sm) (x1 : Int32) (x2 : Int32) (x3 : Int64) (x5 : Int64) (y0 : Int32) (H : Heap) (locs : List Loc) (ls : Array Slot), va_P (dC, dI) vwCl (ms_W h c g) H → va_D A (ms_W h c g) → va_S A s.heap H locs → lv_has ls 13 [(0, .ref (h 0)), (1, .int (x1)), (2, .int (x2)), (3, .long (x3)), (5, .long (x5))] → f_N_go_82  g x1 x2 x3 x5 y0 = some ((), u0) → W p l e (headSpec (qs_ws y_N_go b_N_go 13 none) ({ frames := 7, cells := 0, slots := 0, locals := 175 } : Room)).room s m ([.ref (h 0), .int a1, .int a2] : List Value).toArray below meth cd H locs 0 0 (MQ below (va_Qv (fun (u : Sm) => u = u0) (ms_at dC dI h c A) A) ([.ref (h 0), .int a1, .int a2] : List Value).toArray s 0 0 A) (F0 m 82 ls [.int (y0)]) := by
    intro g x1 x2 x3 x5 y0 H locs ls hP hD hS hl hF
    unfold f_N_go_82 at hF
    refine lv_istore (lv' := [(7, .int (y0)), (0, .ref (h 0)), (1, .int (x1)), (2, .int (x2)), (3, .long (x3)), (5, .long (x5))]) hx hb d_N_go_82 hl (by decide) rfl (fun ls hl => ?_)
    refine lv_aload_n hx hb d_N_go_84 rfl (lv_at hl 1 rfl) ?_
    refine va_get (D := (dC, dI)) (ci := 7) (v := .int (g.1 27 0)) (C := R_N) (T := T_N) (N := 22) hx hb hg in_N hown hK hP 0 rfl rfl 19 (by decide) (hg _ t_637) (fun _ h9 => h9) rfl d_N_go_85 ?_
    refine lv_istore (lv' := [(8, .int (g.1 27 0)), (7, .int (y0)), (0, .ref (h 0)), (1, .int (x1)), (2, .int (x2)), (3, .long (x3)), (5, .long (x5))]) hx hb d_N_go_88 hl (by decide) rfl (fun ls hl => ?_)
    refine lv_iload hx hb d_N_go_90 (lv_at hl 1 rfl) ?_
    refine lv_if_eq (tgt := 102) hx hb d_N_go_92 (by decide) (fun c10 => ?_) (fun c10 => ?_)
    · have hF := qs_pos c10 hF
      refine lv_lload hx hb d_N_go_102 (lv_at hl 6 rfl) ?_
      exact kb_104 g (x1) (x2) (x3) (y0) (g.1 27 0) (x5) H locs ls hP hD hS (lv_sub hl [2, 3, 4, 5, 1, 0] rfl) hF
    · have hF := qs_neg c10 hF
      refine lv_aload_n hx hb d_N_go_95 rfl (lv_at hl 2 rfl) ?_
      refine va_get (D := (dC, dI)) (ci := 7) (v := .long (g.2 28 0)) (C := R_N) (T := T_N) (N := 22) hx hb hg in_N hown hK hP 0 rfl rfl 20 (by decide) (hg _ t_638) (fun _ h9 => h9) rfl d_N_go_96 ?_
      refine lv_goto (tgt := 104) hx hb d_N_go_99 (by decide) ?_
      exact kb_104 g (x1) (x2) (x3) (y0) (g.1 27 0) (g.2 28 0) H locs ls hP hD hS (lv_sub hl [2, 3, 4, 5, 1, 0] rfl) hF
  have kb_81 : ∀ (g : Sm) (x1 : Int32) (x2 : Int32) (x3 : Int64) (x5 : Int64) (H : Heap) (locs : List Loc) (ls : Array Slot), va_P (dC, dI) vwCl (ms_W h c g) H → va_D A (ms_W h c g) → va_S A s.heap H locs → lv_has ls 13 [(0, .ref (h 0)), (1, .int (x1)), (2, .int (x2)), (3, .long (x3)), (5, .long (x5))] → f_N_go_81  g x1 x2 x3 x5 = some ((), u0) → W p l e (headSpec (qs_ws y_N_go b_N_go 13 none) ({ frames := 7, cells := 0, slots := 0, locals := 175 } : Room)).room s m ([.ref (h 0), .int a1, .int a2] : List Value).toArray below meth cd H locs 0 0 (MQ below (va_Qv (fun (u : Sm) => u = u0) (ms_at dC dI h c A) A) ([.ref (h 0), .int a1, .int a2] : List Value).toArray s 0 0 A) (F0 m 81 ls []) := by
    intro g x1 x2 x3 x5 H locs ls hP hD hS hl hF
    unfold f_N_go_81 at hF
    refine lv_iconst (v := 0) hx hb d_N_go_81 (by decide) ?_
    exact kb_82 g (x1) (x2) (x3) (x5) (0) H locs ls hP hD hS (lv_sub hl [0, 1, 2, 3, 4] rfl) hF
  have kb_55 : ∀ (g : Sm) (x1 : Int32) (x2 : Int32) (x3 : Int64) (x5 : Int64) (y1 : Int32) (y2 : Int32) (y3 : Int32) (H : Heap) (locs : List Loc) (ls : Array Slot), va_P (dC, dI) vwCl (ms_W h c g) H → va_D A (ms_W h c g) → va_S A s.heap H locs → lv_has ls 13 [(0, .ref (h 0)), (1, .int (x1)), (2, .int (x2)), (3, .long (x3)), (5, .long (x5))] → f_N_go_55  g x1 x2 x3 x5 y1 y2 y3 = some ((), u0) → W p l e (headSpec (qs_ws y_N_go b_N_go 13 none) ({ frames := 7, cells := 0, slots := 0, locals := 175 } : Room)).room s m ([.ref (h 0), .int a1, .int a2] : List Value).toArray below meth cd H locs 0 0 (MQ below (va_Qv (fun (u : Sm) => u = u0) (ms_at dC dI h c A) A) ([.ref (h 0), .int a1, .int a2] : List Value).toArray s 0 0 A) (F0 m 55 ls [.int (y3), .int (y2), .int (y1), .ref (h 0)]) := by
    intro g x1 x2 x3 x5 y1 y2 y3 H locs ls hP hD hS hl hF
    unfold f_N_go_55 at hF
    obtain ⟨r6, u7, hX, hF⟩ := qs_bn_some hF
    refine qs_cv (Wd := ms_W h c) (isC := [0, 1, 2, 3, 4, 5, 6, 7, 8, 9, 10, 11, 12]) (va_runV (own := "QuakeServerModel") (C := "QuakeServerModel") (As := [.int (y1), .int (y2), .int (y3)]) (rest := []) ⟨hx, hb, hml, hown, hg⟩ (c_N_blockers l dC dI h c H.size g (y1) (y2) (y3)  u7 hX) (cwV 3 hg (qs_gV t_812 t_814 tp_29 t_8 t_815) rfl rfl rfl (by decide +kernel) ⟨Nat.le_of_ble_eq_true rfl, Nat.le_of_ble_eq_true rfl⟩) ⟨qs_blind, va_recv hK hP (ci := 7) (q0 := 0) rfl rfl, fun U hU hW => ⟨rfl, by rw [hU], by rw [hU]; exact hP, va_K.moved hW.alike hK, hD.weaken (fun _ _ _ _ => trivial), hNs.warm hW⟩⟩ rfl rfl hl.1 rfl (lv_room (Nat.le_of_ble_eq_true rfl)) d_N_go_55 ⟨Nat.le_of_ble_eq_true rfl, Nat.le_of_ble_eq_true rfl⟩) rfl hP hD hS hA (fun H locs hP hD hS => ?_)
    refine lv_aload_n hx hb d_N_go_58 rfl (lv_at hl 0 rfl) ?_
    refine va_get (D := (dC, dI)) (ci := 7) (v := .int (u7.1 27 0)) (C := R_N) (T := T_N) (N := 22) hx hb hg in_N hown hK hP 0 rfl rfl 19 (by decide) (hg _ t_637) (fun _ h9 => h9) rfl d_N_go_59 ?_
    refine lv_bipush (v := (-2)) hx hb d_N_go_62 (by decide) ?_
    refine lv_icmp_eq (tgt := 81) hx hb d_N_go_64 (by decide) (fun c8 => ?_) (fun c8 => ?_)
    · have hF := qs_pos c8 hF
      exact kb_81 u7 (x1) (x2) (x3) (x5) H locs ls hP hD hS (lv_sub hl [0, 1, 2, 3, 4] rfl) hF
    · have hF := qs_neg c8 hF
      refine lv_aload_n hx hb d_N_go_67 rfl (lv_at hl 0 rfl) ?_
      refine va_get (D := (dC, dI)) (ci := 7) (v := .long (u7.2 28 0)) (C := R_N) (T := T_N) (N := 22) hx hb hg in_N hown hK hP 0 rfl rfl 20 (by decide) (hg _ t_638) (fun _ h9 => h9) rfl d_N_go_68 ?_
      refine lv_lload hx hb d_N_go_71 (lv_at hl 4 rfl) ?_
      refine W.lcmp hx hb d_N_go_73 ?_
      refine lv_if_ge (tgt := 81) hx hb d_N_go_74 (by decide) (fun c9 => ?_) (fun c9 => ?_)
      · have hF := qs_pos c9 hF
        exact kb_81 u7 (x1) (x2) (x3) (x5) H locs ls hP hD hS (lv_sub hl [0, 1, 2, 3, 4] rfl) hF
      · have hF := qs_neg c9 hF
        refine lv_iconst (v := 1) hx hb d_N_go_77 (by decide) ?_
        refine lv_goto (tgt := 82) hx hb d_N_go_78 (by decide) ?_
        exact kb_82 u7 (x1) (x2) (x3) (x5) (1) H locs ls hP hD hS (lv_sub hl [0, 1, 2, 3, 4] rfl) hF
  have kb_39 : ∀ (g : Sm) (x1 : Int32) (x2 : Int32) (x3 : Int64) (y0 : Int64) (H : Heap) (locs : List Loc) (ls : Array Slot), va_P (dC, dI) vwCl (ms_W h c g) H → va_D A (ms_W h c g) → va_S A s.heap H locs → lv_has ls 13 [(0, .ref (h 0)), (1, .int (x1)), (2, .int (x2)), (3, .long (x3))] → f_N_go_39  g x1 x2 x3 y0 = some ((), u0) → W p l e (headSpec (qs_ws y_N_go b_N_go 13 none) ({ frames := 7, cells := 0, slots := 0, locals := 175 } : Room)).room s m ([.ref (h 0), .int a1, .int a2] : List Value).toArray below meth cd H locs 0 0 (MQ below (va_Qv (fun (u : Sm) => u = u0) (ms_at dC dI h c A) A) ([.ref (h 0), .int a1, .int a2] : List Value).toArray s 0 0 A) (F0 m 39 ls [.long (y0)]) := by
    intro g x1 x2 x3 y0 H locs ls hP hD hS hl hF
    unfold f_N_go_39 at hF
    refine lv_lstore (lv' := [(5, .long (y0)), (0, .ref (h 0)), (1, .int (x1)), (2, .int (x2)), (3, .long (x3))]) hx hb d_N_go_39 hl (by decide) rfl (fun ls hl => ?_)
    refine lv_aload_n hx hb d_N_go_41 rfl (lv_at hl 1 rfl) ?_
    refine lv_iload_n hx hb d_N_go_42 rfl (lv_at hl 2 rfl) ?_
    refine lv_iload_n hx hb d_N_go_43 rfl (lv_at hl 3 rfl) ?_
    refine lv_lload_n hx hb d_N_go_44 rfl (lv_at hl 4 rfl) ?_
    refine lv_lconst (v := 0) hx hb d_N_go_45 (by decide) ?_
    refine W.lcmp hx hb d_N_go_46 ?_
    refine lv_if_le (tgt := 54) hx hb d_N_go_47 (by decide) (fun c5 => ?_) (fun c5 => ?_)
    · have hF := qs_pos c5 hF
      refine lv_iconst (v := 0) hx hb d_N_go_54 (by decide) ?_
      exact kb_55 g (x1) (x2) (x3) (y0) (x1) (x2) (0) H locs ls hP hD hS (lv_sub hl [1, 2, 3, 4, 0] rfl) hF
    · have hF := qs_neg c5 hF
      refine lv_iconst (v := 1) hx hb d_N_go_50 (by decide) ?_
      refine lv_goto (tgt := 55) hx hb d_N_go_51 (by decide) ?_
      exact kb_55 g (x1) (x2) (x3) (y0) (x1) (x2) (1) H locs ls hP hD hS (lv_sub hl [1, 2, 3, 4, 0] rfl) hF
  have hl := lv_entry ([.ref (h 0), .int a1, .int a2] : List Value) (n := 13) (Nat.le_of_ble_eq_true rfl)
  rw [lg_entry_eq]
  generalize (lg_sl ([.ref (h 0), .int a1, .int a2] : List Value) ++ List.replicate (13 - (lg_sl ([.ref (h 0), .int a1, .int a2] : List Value)).length) Slot.unset).toArray = ls at hl ⊢
  have hl : lv_has ls 13 [(0, .ref (h 0)), (1, .int (a1)), (2, .int (a2))] := hl
  unfold f_N_go at hF
  obtain ⟨H, hHe⟩ : ∃ H, H = s.heap := ⟨_, rfl⟩
  obtain ⟨locs, hLe⟩ : ∃ L : List Loc, L = [] := ⟨_, rfl⟩
  rw [← hHe] at hP ⊢
  rw [← hLe]
  have hS : va_S A s.heap H locs := by rw [hHe, hLe]; exact hS
  refine lv_aload_n hx hb d_N_go_0 rfl (lv_at hl 0 rfl) ?_
  refine va_get (D := (dC, dI)) (ci := 7) (v := .ref (h 1)) (C := R_N) (T := T_N) (N := 22) hx hb hg in_N hown hK hP 0 rfl rfl 1 (by decide) (hg _ t_619) (fun _ h9 => h9) rfl d_N_go_1 ?_
  refine lv_bipush (v := 16) hx hb d_N_go_4 (by decide) ?_
  refine lv_iload_n hx hb d_N_go_6 rfl (lv_at hl 1 rfl) ?_
  refine lv_imul hx hb d_N_go_7 ?_
  refine lv_iconst (v := 2) hx hb d_N_go_8 (by decide) ?_
  refine lv_iadd hx hb d_N_go_9 ?_
  refine lv_iload_n hx hb d_N_go_10 rfl (lv_at hl 2 rfl) ?_
  refine lv_iadd hx hb d_N_go_11 ?_
  obtain ⟨c1, hF⟩ := qs_in_some hF
  refine va_lald hx hb hK hP 1 0 rfl rfl c1 d_N_go_12 ?_
  refine lv_ldc2 (v := 8) hx hb hown (hg _ t_701) d_N_go_13 ?_
  obtain ⟨r2, hX, hF⟩ := qs_pb_some hF
  refine qs_psl (va_runS (own := "QuakeServerModel") (As := [.long (g.2 1 (((16 * a1) + 2) + a2).toNatClampNeg), .long ((8 : Int64))]) (rest := []) ⟨hx, hb, hml, hown, hg⟩ (c_N_down l H.size (g.2 1 (((16 * a1) + 2) + a2).toNatClampNeg) ((8 : Int64)) r2 hX) (va_cwS 2 hg (qs_gS t_776 t_777 t_8 t_778) rfl rfl rfl (by decide +kernel) ⟨Nat.le_of_ble_eq_true rfl, Nat.le_of_ble_eq_true rfl⟩) ⟨qs_blind0, fun U hU hW => ⟨rfl, by rw [hU], hNs.warm hW⟩⟩ rfl rfl hl.1 rfl (lv_room (Nat.le_of_ble_eq_true rfl)) d_N_go_16 ⟨Nat.le_of_ble_eq_true rfl, Nat.le_of_ble_eq_true rfl⟩) hP hD hS hA (fun H locs hP hS => ?_)
  refine lv_lstore_n (lv' := [(3, .long (r2)), (0, .ref (h 0)), (1, .int (a1)), (2, .int (a2))]) hx hb d_N_go_19 rfl hl (by decide) rfl (fun ls hl => ?_)
  refine lv_lload_n hx hb d_N_go_20 rfl (lv_at hl 0 rfl) ?_
  refine lv_lconst (v := 0) hx hb d_N_go_21 (by decide) ?_
  refine W.lcmp hx hb d_N_go_22 ?_
  refine lv_if_ne (tgt := 27) hx hb d_N_go_23 (by decide) (fun c3 => ?_) (fun c3 => ?_)
  · have hF := qs_neg c3 hF
    refine lv_lload_n hx hb d_N_go_27 rfl (lv_at hl 0 rfl) ?_
    refine lv_lconst (v := 0) hx hb d_N_go_28 (by decide) ?_
    refine W.lcmp hx hb d_N_go_29 ?_
    refine lv_if_ge (tgt := 38) hx hb d_N_go_30 (by decide) (fun c4 => ?_) (fun c4 => ?_)
    · have hF := qs_pos c4 hF
      refine lv_lload_n hx hb d_N_go_38 rfl (lv_at hl 0 rfl) ?_
      exact kb_39 g (a1) (a2) (r2) (r2) H locs ls hP hD hS (lv_sub hl [1, 2, 3, 0] rfl) hF
    · have hF := qs_neg c4 hF
      refine lv_lload_n hx hb d_N_go_33 rfl (lv_at hl 0 rfl) ?_
      refine lv_lneg hx hb d_N_go_34 ?_
      refine lv_goto (tgt := 39) hx hb d_N_go_35 (by decide) ?_
      exact kb_39 g (a1) (a2) (r2) (-r2) H locs ls hP hD hS (lv_sub hl [1, 2, 3, 0] rfl) hF
  · have hF := qs_pos c3 hF
    obtain ⟨h8, h9⟩ := qs_ret hF
    exact W.vret hx hb hr (fun t ht hW => ⟨⟨g, rfl, h9, by rw [ht]; exact hP, va_K.moved hW.alike hK, hD⟩, hS.F ht⟩) hS.2.2 d_N_go_26

theorem d_N_triggers_0 : decode b_N_triggers 0 = .ok (.aload_n 0, 1) := by decide +kernel
theorem d_N_triggers_1 : decode b_N_triggers 1 = .ok (.getfield 7, 3) := by decide +kernel
theorem d_N_triggers_4 : decode b_N_triggers 4 = .ok (.bipush 16, 2) := by decide +kernel
theorem d_N_triggers_6 : decode b_N_triggers 6 = .ok (.iload_n 1, 1) := by decide +kernel
theorem d_N_triggers_7 : decode b_N_triggers 7 = .ok (.imul, 1) := by decide +kernel
theorem d_N_triggers_8 : decode b_N_triggers 8 = .ok (.iconst 5, 1) := by decide +kernel
theorem d_N_triggers_9 : decode b_N_triggers 9 = .ok (.iadd, 1) := by decide +kernel
theorem d_N_triggers_10 : decode b_N_triggers 10 = .ok (.laload, 1) := by decide +kernel
theorem d_N_triggers_11 : decode b_N_triggers 11 = .ok (.invokestatic 113, 3) := by decide +kernel
theorem d_N_triggers_14 : decode b_N_triggers 14 = .ok (.iconst 1, 1) := by decide +kernel
theorem d_N_triggers_15 : decode b_N_triggers 15 = .ok (.if_icmp .ne 4, 3) := by decide +kernel
theorem d_N_triggers_18 : decode b_N_triggers 18 = .ok (.return_, 1) := by decide +kernel
theorem d_N_triggers_19 : decode b_N_triggers 19 = .ok (.iconst 0, 1) := by decide +kernel
theorem d_N_triggers_20 : decode b_N_triggers 20 = .ok (.istore_n 2, 1) := by decide +kernel
theorem d_N_triggers_21 : decode b_N_triggers 21 = .ok (.iload_n 2, 1) := by decide +kernel
theorem d_N_triggers_22 : decode b_N_triggers 22 = .ok (.bipush 12, 2) := by decide +kernel
theorem d_N_triggers_24 : decode b_N_triggers 24 = .ok (.if_icmp .ge 79, 3) := by decide +kernel
theorem d_N_triggers_27 : decode b_N_triggers 27 = .ok (.aload_n 0, 1) := by decide +kernel
theorem d_N_triggers_28 : decode b_N_triggers 28 = .ok (.getfield 13, 3) := by decide +kernel
theorem d_N_triggers_31 : decode b_N_triggers 31 = .ok (.iload_n 1, 1) := by decide +kernel
theorem d_N_triggers_32 : decode b_N_triggers 32 = .ok (.baload, 1) := by decide +kernel
theorem d_N_triggers_33 : decode b_N_triggers 33 = .ok (.ifCond .eq 70, 3) := by decide +kernel
theorem d_N_triggers_36 : decode b_N_triggers 36 = .ok (.iload_n 2, 1) := by decide +kernel
theorem d_N_triggers_37 : decode b_N_triggers 37 = .ok (.iload_n 1, 1) := by decide +kernel
theorem d_N_triggers_38 : decode b_N_triggers 38 = .ok (.if_icmp .eq 59, 3) := by decide +kernel
theorem d_N_triggers_41 : decode b_N_triggers 41 = .ok (.aload_n 0, 1) := by decide +kernel
theorem d_N_triggers_42 : decode b_N_triggers 42 = .ok (.getfield 13, 3) := by decide +kernel
theorem d_N_triggers_45 : decode b_N_triggers 45 = .ok (.iload_n 2, 1) := by decide +kernel
theorem d_N_triggers_46 : decode b_N_triggers 46 = .ok (.baload, 1) := by decide +kernel
theorem d_N_triggers_47 : decode b_N_triggers 47 = .ok (.ifCond .eq 50, 3) := by decide +kernel
theorem d_N_triggers_50 : decode b_N_triggers 50 = .ok (.aload_n 0, 1) := by decide +kernel
theorem d_N_triggers_51 : decode b_N_triggers 51 = .ok (.getfield 7, 3) := by decide +kernel
theorem d_N_triggers_54 : decode b_N_triggers 54 = .ok (.bipush 16, 2) := by decide +kernel
theorem d_N_triggers_56 : decode b_N_triggers 56 = .ok (.iload_n 2, 1) := by decide +kernel
theorem d_N_triggers_57 : decode b_N_triggers 57 = .ok (.imul, 1) := by decide +kernel
theorem d_N_triggers_58 : decode b_N_triggers 58 = .ok (.iconst 5, 1) := by decide +kernel
theorem d_N_triggers_59 : decode b_N_triggers 59 = .ok (.iadd, 1) := by decide +kernel
theorem d_N_triggers_60 : decode b_N_triggers 60 = .ok (.laload, 1) := by decide +kernel
theorem d_N_triggers_61 : decode b_N_triggers 61 = .ok (.invokestatic 113, 3) := by decide +kernel
theorem d_N_triggers_64 : decode b_N_triggers 64 = .ok (.iconst 1, 1) := by decide +kernel
theorem d_N_triggers_65 : decode b_N_triggers 65 = .ok (.if_icmp .ne 32, 3) := by decide +kernel
theorem d_N_triggers_68 : decode b_N_triggers 68 = .ok (.aload_n 0, 1) := by decide +kernel
theorem d_N_triggers_69 : decode b_N_triggers 69 = .ok (.iload_n 1, 1) := by decide +kernel
theorem d_N_triggers_70 : decode b_N_triggers 70 = .ok (.iload_n 2, 1) := by decide +kernel
theorem d_N_triggers_71 : decode b_N_triggers 71 = .ok (.iconst 0, 1) := by decide +kernel
theorem d_N_triggers_72 : decode b_N_triggers 72 = .ok (.invokevirtual 179, 3) := by decide +kernel
theorem d_N_triggers_75 : decode b_N_triggers 75 = .ok (.ifCond .eq 22, 3) := by decide +kernel
theorem d_N_triggers_78 : decode b_N_triggers 78 = .ok (.aload_n 0, 1) := by decide +kernel
theorem d_N_triggers_79 : decode b_N_triggers 79 = .ok (.iload_n 1, 1) := by decide +kernel
theorem d_N_triggers_80 : decode b_N_triggers 80 = .ok (.iload_n 2, 1) := by decide +kernel
theorem d_N_triggers_81 : decode b_N_triggers 81 = .ok (.iconst 1, 1) := by decide +kernel
theorem d_N_triggers_82 : decode b_N_triggers 82 = .ok (.invokevirtual 179, 3) := by decide +kernel
theorem d_N_triggers_85 : decode b_N_triggers 85 = .ok (.ifCond .ne 6, 3) := by decide +kernel
theorem d_N_triggers_88 : decode b_N_triggers 88 = .ok (.goto 9, 3) := by decide +kernel
theorem d_N_triggers_91 : decode b_N_triggers 91 = .ok (.aload_n 0, 1) := by decide +kernel
theorem d_N_triggers_92 : decode b_N_triggers 92 = .ok (.iload_n 2, 1) := by decide +kernel
theorem d_N_triggers_93 : decode b_N_triggers 93 = .ok (.iload_n 1, 1) := by decide +kernel
theorem d_N_triggers_94 : decode b_N_triggers 94 = .ok (.invokevirtual 191, 3) := by decide +kernel
theorem d_N_triggers_97 : decode b_N_triggers 97 = .ok (.iinc 2 1, 3) := by decide +kernel
theorem d_N_triggers_100 : decode b_N_triggers 100 = .ok (.goto (-79), 3) := by decide +kernel
theorem d_N_triggers_103 : decode b_N_triggers 103 = .ok (.return_, 1) := by decide +kernel
def f_N_triggers_97 (k21 : Sm → Int32 → Int32 → Option (Unit × Sm)) (g : Sm) (x1 : Int32) (x2 : Int32) : Option (Unit × Sm) := (k21 g (x1) (x2 + 1))
def f_N_triggers_21  : Nat → Sm → Int32 → Int32 → Option (Unit × Sm)
  | 0, _, _, _ => none
  | n + 1, g, x1, x2 => (if 12 ≤ x2 then (some ((), g)) else (qs_in (x1) 12 (if (g.1 2 x1.toNatClampNeg) = 0 then (some ((), g)) else (if x2 = x1 then (f_N_triggers_97 (fun g x1 x2 => f_N_triggers_21  n g x1 x2) g (x1) (x2)) else (qs_in (x2) 12 (if (g.1 2 x2.toNatClampNeg) = 0 then (f_N_triggers_97 (fun g x1 x2 => f_N_triggers_21  n g x1 x2) g (x1) (x2)) else (qs_in ((16 * x2) + 5) 192 (qs_pb (f_N_whole (g.2 1 ((16 * x2) + 5).toNatClampNeg)) fun r11 => (if r11 = 1 then (qs_bn (f_N_meets g (x1) (x2) (0)) fun r13 u14 => (if r13 = 0 then (f_N_triggers_97 (fun g x1 x2 => f_N_triggers_21  n g x1 x2) u14 (x1) (x2)) else (qs_bn (f_N_meets u14 (x1) (x2) (1)) fun r16 u17 => (if r16 = 0 then (f_N_triggers_97 (fun g x1 x2 => f_N_triggers_21  n g x1 x2) u17 (x1) (x2)) else (qs_bn (f_N_touch u17 (x2) (x1)) fun _ u20 => (f_N_triggers_97 (fun g x1 x2 => f_N_triggers_21  n g x1 x2) u20 (x1) (x2))))))) else (f_N_triggers_97 (fun g x1 x2 => f_N_triggers_21  n g x1 x2) g (x1) (x2)))))))))))
def f_N_triggers (g : Sm) (a1 : Int32) : Option (Unit × Sm) := (qs_in ((16 * a1) + 5) 192 (qs_pb (f_N_whole (g.2 1 ((16 * a1) + 5).toNatClampNeg)) fun r2 => (if r2 = 1 then (some ((), g)) else (f_N_triggers_21 200 g (a1) (0)))))
set_option maxHeartbeats 4000000 in
set_option maxRecDepth 100000 in
theorem c_N_triggers (l : Launch) (dC : Nat → ClassId) (dI : Nat → Nat → Nat) (h : Nat → Nat) (c : Nat → ClassId) (sz : Nat) (g : Sm) (a1 : Int32) (u0 : Sm) (hF : f_N_triggers g a1 = some ((), u0)) : Met l y_N_triggers (qs_ws y_N_triggers b_N_triggers 3 none) ({ frames := 7, cells := 0, slots := 0, locals := 175 } : Room) (va_Pc ([.ref (h 0), .int a1] : List Value) (fun U => U.heap.size = sz ∧ va_P (dC, dI) vwCl (ms_W h c g) U.heap ∧ va_K (dC, dI) vwCl (ms_T c) U ∧ va_D (fun _ => True) (ms_W h c g) ∧ qs_N U)) (va_Qv (fun (u : Sm) => u = u0) (ms_at dC dI h c (va_A (ms_W h c g) sz)) (va_A (ms_W h c g) sz)) 0 0 (va_A (ms_W h c g) sz) := by
  refine Met.ofW (cc := b_N_triggers) (maxL := 3) (ret := none) (by decide +kernel) rfl ?_
  intro p e s m args below meth cd s₁ B hml hv
  obtain ⟨rfl, hsz, hP, hK, hD0, hNs⟩ := hv
  have hx := B.exec
  have hb := B.bytes
  have hr := B.returns
  have hts := atoms_spec (ws := (qs_ws y_N_triggers b_N_triggers 3 none)) B.pre
  have hg : ∀ w ∈ qs_gt, w.before _ s = true := fun w h => hts w (List.mem_cons_of_mem _ h)
  have hown : s.vm.findClass R_N = some m.cls := findClass_of_methodNamed B.named
  have hlocks := B.notSynchronized
  subst hsz
  have hD := hD0.self (sz := s.heap.size)
  generalize hAe : va_A (ms_W h c g) s.heap.size = A at hD ⊢
  have hA : ∀ q : Nat, s.heap.size ≤ q → A q := fun q h => by rw [← hAe]; exact Or.inr h
  have hS : va_S A s.heap s.heap [] := va_S.rf
  have kb_97 : ∀ (k21 : Sm → Int32 → Int32 → Option (Unit × Sm)), (∀ (g : Sm) (x1 : Int32) (x2 : Int32) (H : Heap) (locs : List Loc) (ls : Array Slot), va_P (dC, dI) vwCl (ms_W h c g) H → va_D A (ms_W h c g) → va_S A s.heap H locs → lv_has ls 3 [(0, .ref (h 0)), (1, .int (x1)), (2, .int (x2))] → k21 g x1 x2 = some ((), u0) → W p l e (headSpec (qs_ws y_N_triggers b_N_triggers 3 none) ({ frames := 7, cells := 0, slots := 0, locals := 175 } : Room)).room s m ([.ref (h 0), .int a1] : List Value).toArray below meth cd H locs 0 0 (MQ below (va_Qv (fun (u : Sm) => u = u0) (ms_at dC dI h c A) A) ([.ref (h 0), .int a1] : List Value).toArray s 0 0 A) (F0 m 21 ls [])) → ∀ (g : Sm) (x1 : Int32) (x2 : Int32) (H : Heap) (locs : List Loc) (ls : Array Slot), va_P (dC, dI) vwCl (ms_W h c g) H → va_D A (ms_W h c g) → va_S A s.heap H locs → lv_has ls 3 [(0, .ref (h 0)), (1, .int (x1)), (2, .int (x2))] → f_N_triggers_97 k21  g x1 x2 = some ((), u0) → W p l e (headSpec (qs_ws y_N_triggers b_N_triggers 3 none) ({ frames := 7, cells := 0, slots := 0, locals := 175 } : Room)).room s m ([.ref (h 0), .int a1] : List Value).toArray below meth cd H locs 0 0 (MQ below (va_Qv (fun (u : Sm) => u = u0) (ms_at dC dI h c A) A) ([.ref (h 0), .int a1] : List Value).toArray s 0 0 A) (F0 m 97 ls []) := by
    intro k21 hk21
    intro g x1 x2 H locs ls hP hD hS hl hF
    unfold f_N_triggers_97 at hF
    refine lv_iinc (v := x2 + 1) (lv' := [(2, .int (x2 + 1)), (0, .ref (h 0)), (1, .int (x1))]) hx hb d_N_triggers_97 hl (k := 2) rfl (by rfl) (by decide) rfl (fun ls hl => ?_)
    refine lv_goto (tgt := 21) hx hb d_N_triggers_100 (by decide) ?_
    exact hk21 g (x1) (x2 + 1) H locs ls hP hD hS (lv_sub hl [1, 2, 0] rfl) hF
  have kb_21 : ∀ n : Nat, ∀ (g : Sm) (x1 : Int32) (x2 : Int32) (H : Heap) (locs : List Loc) (ls : Array Slot), va_P (dC, dI) vwCl (ms_W h c g) H → va_D A (ms_W h c g) → va_S A s.heap H locs → lv_has ls 3 [(0, .ref (h 0)), (1, .int (x1)), (2, .int (x2))] → f_N_triggers_21 n g x1 x2 = some ((), u0) → W p l e (headSpec (qs_ws y_N_triggers b_N_triggers 3 none) ({ frames := 7, cells := 0, slots := 0, locals := 175 } : Room)).room s m ([.ref (h 0), .int a1] : List Value).toArray below meth cd H locs 0 0 (MQ below (va_Qv (fun (u : Sm) => u = u0) (ms_at dC dI h c A) A) ([.ref (h 0), .int a1] : List Value).toArray s 0 0 A) (F0 m 21 ls []) := by
    intro n
    induction n with
    | zero =>
      intro g x1 x2 H locs ls hP hD hS hl hF
      exact nomatch (show (none : Option (Unit × Sm)) = some _ from hF)
    | succ n ih =>
      intro g x1 x2 H locs ls hP hD hS hl hF
      rw [f_N_triggers_21] at hF
      refine lv_iload_n hx hb d_N_triggers_21 rfl (lv_at hl 2 rfl) ?_
      refine lv_bipush (v := 12) hx hb d_N_triggers_22 (by decide) ?_
      refine lv_icmp_ge (tgt := 103) hx hb d_N_triggers_24 (by decide) (fun c4 => ?_) (fun c4 => ?_)
      · have hF := qs_pos c4 hF
        obtain ⟨h8, h9⟩ := qs_ret hF
        exact W.vret hx hb hr (fun t ht hW => ⟨⟨g, rfl, h9, by rw [ht]; exact hP, va_K.moved hW.alike hK, hD⟩, hS.F ht⟩) hS.2.2 d_N_triggers_103
      · have hF := qs_neg c4 hF
        refine lv_aload_n hx hb d_N_triggers_27 rfl (lv_at hl 0 rfl) ?_
        refine va_get (D := (dC, dI)) (ci := 7) (v := .ref (h 2)) (C := R_N) (T := T_N) (N := 22) hx hb hg in_N hown hK hP 0 rfl rfl 2 (by decide) (hg _ t_620) (fun _ h9 => h9) rfl d_N_triggers_28 ?_
        refine lv_iload_n hx hb d_N_triggers_31 rfl (lv_at hl 1 rfl) ?_
        obtain ⟨c5, hF⟩ := qs_in_some hF
        refine va_zald hx hb hK hP 2 1 rfl rfl c5 d_N_triggers_32 ?_
        refine lv_if_eq (tgt := 103) hx hb d_N_triggers_33 (by decide) (fun c6 => ?_) (fun c6 => ?_)
        · have hF := qs_pos c6 hF
          obtain ⟨h8, h9⟩ := qs_ret hF
          exact W.vret hx hb hr (fun t ht hW => ⟨⟨g, rfl, h9, by rw [ht]; exact hP, va_K.moved hW.alike hK, hD⟩, hS.F ht⟩) hS.2.2 d_N_triggers_103
        · have hF := qs_neg c6 hF
          refine lv_iload_n hx hb d_N_triggers_36 rfl (lv_at hl 2 rfl) ?_
          refine lv_iload_n hx hb d_N_triggers_37 rfl (lv_at hl 1 rfl) ?_
          refine lv_icmp_eq (tgt := 97) hx hb d_N_triggers_38 (by decide) (fun c7 => ?_) (fun c7 => ?_)
          · have hF := qs_pos c7 hF
            exact kb_97 _ ih g (x1) (x2) H locs ls hP hD hS (lv_sub hl [0, 1, 2] rfl) hF
          · have hF := qs_neg c7 hF
            refine lv_aload_n hx hb d_N_triggers_41 rfl (lv_at hl 0 rfl) ?_
            refine va_get (D := (dC, dI)) (ci := 7) (v := .ref (h 2)) (C := R_N) (T := T_N) (N := 22) hx hb hg in_N hown hK hP 0 rfl rfl 2 (by decide) (hg _ t_620) (fun _ h9 => h9) rfl d_N_triggers_42 ?_
            refine lv_iload_n hx hb d_N_triggers_45 rfl (lv_at hl 2 rfl) ?_
            obtain ⟨c8, hF⟩ := qs_in_some hF
            refine va_zald hx hb hK hP 2 1 rfl rfl c8 d_N_triggers_46 ?_
            refine lv_if_eq (tgt := 97) hx hb d_N_triggers_47 (by decide) (fun c9 => ?_) (fun c9 => ?_)
            · have hF := qs_pos c9 hF
              exact kb_97 _ ih g (x1) (x2) H locs ls hP hD hS (lv_sub hl [0, 1, 2] rfl) hF
            · have hF := qs_neg c9 hF
              refine lv_aload_n hx hb d_N_triggers_50 rfl (lv_at hl 0 rfl) ?_
              refine va_get (D := (dC, dI)) (ci := 7) (v := .ref (h 1)) (C := R_N) (T := T_N) (N := 22) hx hb hg in_N hown hK hP 0 rfl rfl 1 (by decide) (hg _ t_619) (fun _ h9 => h9) rfl d_N_triggers_51 ?_
              refine lv_bipush (v := 16) hx hb d_N_triggers_54 (by decide) ?_
              refine lv_iload_n hx hb d_N_triggers_56 rfl (lv_at hl 2 rfl) ?_
              refine lv_imul hx hb d_N_triggers_57 ?_
              refine lv_iconst (v := 5) hx hb d_N_triggers_58 (by decide) ?_
              refine lv_iadd hx hb d_N_triggers_59 ?_
              obtain ⟨c10, hF⟩ := qs_in_some hF
              refine va_lald hx hb hK hP 1 0 rfl rfl c10 d_N_triggers_60 ?_
              obtain ⟨r11, hX, hF⟩ := qs_pb_some hF
              refine qs_psi (va_runS (own := "QuakeServerModel") (As := [.long (g.2 1 ((16 * x2) + 5).toNatClampNeg)]) (rest := []) ⟨hx, hb, hml, hown, hg⟩ (c_N_whole l H.size (g.2 1 ((16 * x2) + 5).toNatClampNeg) r11 hX) (va_cwS 1 hg (qs_gS t_773 t_774 t_8 t_775) rfl rfl rfl (by decide +kernel) ⟨Nat.le_of_ble_eq_true rfl, Nat.le_of_ble_eq_true rfl⟩) ⟨qs_blind0, fun U hU hW => ⟨rfl, by rw [hU], hNs.warm hW⟩⟩ rfl rfl hl.1 rfl (lv_room (Nat.le_of_ble_eq_true rfl)) d_N_triggers_61 ⟨Nat.le_of_ble_eq_true rfl, Nat.le_of_ble_eq_true rfl⟩) hP hD hS hA (fun H locs hP hS => ?_)
              refine lv_iconst (v := 1) hx hb d_N_triggers_64 (by decide) ?_
              refine lv_icmp_ne (tgt := 97) hx hb d_N_triggers_65 (by decide) (fun c12 => ?_) (fun c12 => ?_)
              · have hF := qs_neg c12 hF
                exact kb_97 _ ih g (x1) (x2) H locs ls hP hD hS (lv_sub hl [0, 1, 2] rfl) hF
              · have hF := qs_pos c12 hF
                refine lv_aload_n hx hb d_N_triggers_68 rfl (lv_at hl 0 rfl) ?_
                refine lv_iload_n hx hb d_N_triggers_69 rfl (lv_at hl 1 rfl) ?_
                refine lv_iload_n hx hb d_N_triggers_70 rfl (lv_at hl 2 rfl) ?_
                refine lv_iconst (v := 0) hx hb d_N_triggers_71 (by decide) ?_
                obtain ⟨r13, u14, hX, hF⟩ := qs_bn_some hF
                refine qs_ci (Wd := ms_W h c) (isC := [0, 1, 2, 3, 4, 5, 6, 7, 8, 9, 10, 11, 12]) (va_runV (own := "QuakeServerModel") (C := "QuakeServerModel") (As := [.int (x1), .int (x2), .int (0)]) (rest := []) ⟨hx, hb, hml, hown, hg⟩ (c_N_meets l dC dI h c H.size g (x1) (x2) (0) r13 u14 hX) (cwV 3 hg (qs_gV t_828 t_830 tp_32 t_8 t_831) rfl rfl rfl (by decide +kernel) ⟨Nat.le_of_ble_eq_true rfl, Nat.le_of_ble_eq_true rfl⟩) ⟨qs_blind, va_recv hK hP (ci := 7) (q0 := 0) rfl rfl, fun U hU hW => ⟨rfl, by rw [hU], by rw [hU]; exact hP, va_K.moved hW.alike hK, hD.weaken (fun _ _ _ _ => trivial), hNs.warm hW⟩⟩ rfl rfl hl.1 rfl (lv_room (Nat.le_of_ble_eq_true rfl)) d_N_triggers_72 ⟨Nat.le_of_ble_eq_true rfl, Nat.le_of_ble_eq_true rfl⟩) rfl hP hD hS hA (fun H locs hP hD hS => ?_)
                refine lv_if_eq (tgt := 97) hx hb d_N_triggers_75 (by decide) (fun c15 => ?_) (fun c15 => ?_)
                · have hF := qs_pos c15 hF
                  exact kb_97 _ ih u14 (x1) (x2) H locs ls hP hD hS (lv_sub hl [0, 1, 2] rfl) hF
                · have hF := qs_neg c15 hF
                  refine lv_aload_n hx hb d_N_triggers_78 rfl (lv_at hl 0 rfl) ?_
                  refine lv_iload_n hx hb d_N_triggers_79 rfl (lv_at hl 1 rfl) ?_
                  refine lv_iload_n hx hb d_N_triggers_80 rfl (lv_at hl 2 rfl) ?_
                  refine lv_iconst (v := 1) hx hb d_N_triggers_81 (by decide) ?_
                  obtain ⟨r16, u17, hX, hF⟩ := qs_bn_some hF
                  refine qs_ci (Wd := ms_W h c) (isC := [0, 1, 2, 3, 4, 5, 6, 7, 8, 9, 10, 11, 12]) (va_runV (own := "QuakeServerModel") (C := "QuakeServerModel") (As := [.int (x1), .int (x2), .int (1)]) (rest := []) ⟨hx, hb, hml, hown, hg⟩ (c_N_meets l dC dI h c H.size u14 (x1) (x2) (1) r16 u17 hX) (cwV 3 hg (qs_gV t_828 t_830 tp_32 t_8 t_831) rfl rfl rfl (by decide +kernel) ⟨Nat.le_of_ble_eq_true rfl, Nat.le_of_ble_eq_true rfl⟩) ⟨qs_blind, va_recv hK hP (ci := 7) (q0 := 0) rfl rfl, fun U hU hW => ⟨rfl, by rw [hU], by rw [hU]; exact hP, va_K.moved hW.alike hK, hD.weaken (fun _ _ _ _ => trivial), hNs.warm hW⟩⟩ rfl rfl hl.1 rfl (lv_room (Nat.le_of_ble_eq_true rfl)) d_N_triggers_82 ⟨Nat.le_of_ble_eq_true rfl, Nat.le_of_ble_eq_true rfl⟩) rfl hP hD hS hA (fun H locs hP hD hS => ?_)
                  refine lv_if_ne (tgt := 91) hx hb d_N_triggers_85 (by decide) (fun c18 => ?_) (fun c18 => ?_)
                  · have hF := qs_neg c18 hF
                    refine lv_aload_n hx hb d_N_triggers_91 rfl (lv_at hl 0 rfl) ?_
                    refine lv_iload_n hx hb d_N_triggers_92 rfl (lv_at hl 2 rfl) ?_
                    refine lv_iload_n hx hb d_N_triggers_93 rfl (lv_at hl 1 rfl) ?_
                    obtain ⟨r19, u20, hX, hF⟩ := qs_bn_some hF
                    refine qs_cv (Wd := ms_W h c) (isC := [0, 1, 2, 3, 4, 5, 6, 7, 8, 9, 10, 11, 12]) (va_runV (own := "QuakeServerModel") (C := "QuakeServerModel") (As := [.int (x2), .int (x1)]) (rest := []) ⟨hx, hb, hml, hown, hg⟩ (c_N_touch l dC dI h c H.size u17 (x2) (x1)  u20 hX) (cwV 2 hg (qs_gV t_833 t_835 tp_33 t_8 t_836) rfl rfl rfl (by decide +kernel) ⟨Nat.le_of_ble_eq_true rfl, Nat.le_of_ble_eq_true rfl⟩) ⟨qs_blind, va_recv hK hP (ci := 7) (q0 := 0) rfl rfl, fun U hU hW => ⟨rfl, by rw [hU], by rw [hU]; exact hP, va_K.moved hW.alike hK, hD.weaken (fun _ _ _ _ => trivial), hNs.warm hW⟩⟩ rfl rfl hl.1 rfl (lv_room (Nat.le_of_ble_eq_true rfl)) d_N_triggers_94 ⟨Nat.le_of_ble_eq_true rfl, Nat.le_of_ble_eq_true rfl⟩) rfl hP hD hS hA (fun H locs hP hD hS => ?_)
                    exact kb_97 _ ih u20 (x1) (x2) H locs ls hP hD hS (lv_sub hl [0, 1, 2] rfl) hF
                  · have hF := qs_pos c18 hF
                    refine lv_goto (tgt := 97) hx hb d_N_triggers_88 (by decide) ?_
                    exact kb_97 _ ih u17 (x1) (x2) H locs ls hP hD hS (lv_sub hl [0, 1, 2] rfl) hF
  have hl := lv_entry ([.ref (h 0), .int a1] : List Value) (n := 3) (Nat.le_of_ble_eq_true rfl)
  rw [lg_entry_eq]
  generalize (lg_sl ([.ref (h 0), .int a1] : List Value) ++ List.replicate (3 - (lg_sl ([.ref (h 0), .int a1] : List Value)).length) Slot.unset).toArray = ls at hl ⊢
  have hl : lv_has ls 3 [(0, .ref (h 0)), (1, .int (a1))] := hl
  unfold f_N_triggers at hF
  obtain ⟨H, hHe⟩ : ∃ H, H = s.heap := ⟨_, rfl⟩
  obtain ⟨locs, hLe⟩ : ∃ L : List Loc, L = [] := ⟨_, rfl⟩
  rw [← hHe] at hP ⊢
  rw [← hLe]
  have hS : va_S A s.heap H locs := by rw [hHe, hLe]; exact hS
  refine lv_aload_n hx hb d_N_triggers_0 rfl (lv_at hl 0 rfl) ?_
  refine va_get (D := (dC, dI)) (ci := 7) (v := .ref (h 1)) (C := R_N) (T := T_N) (N := 22) hx hb hg in_N hown hK hP 0 rfl rfl 1 (by decide) (hg _ t_619) (fun _ h9 => h9) rfl d_N_triggers_1 ?_
  refine lv_bipush (v := 16) hx hb d_N_triggers_4 (by decide) ?_
  refine lv_iload_n hx hb d_N_triggers_6 rfl (lv_at hl 1 rfl) ?_
  refine lv_imul hx hb d_N_triggers_7 ?_
  refine lv_iconst (v := 5) hx hb d_N_triggers_8 (by decide) ?_
  refine lv_iadd hx hb d_N_triggers_9 ?_
  obtain ⟨c1, hF⟩ := qs_in_some hF
  refine va_lald hx hb hK hP 1 0 rfl rfl c1 d_N_triggers_10 ?_
  obtain ⟨r2, hX, hF⟩ := qs_pb_some hF
  refine qs_psi (va_runS (own := "QuakeServerModel") (As := [.long (g.2 1 ((16 * a1) + 5).toNatClampNeg)]) (rest := []) ⟨hx, hb, hml, hown, hg⟩ (c_N_whole l H.size (g.2 1 ((16 * a1) + 5).toNatClampNeg) r2 hX) (va_cwS 1 hg (qs_gS t_773 t_774 t_8 t_775) rfl rfl rfl (by decide +kernel) ⟨Nat.le_of_ble_eq_true rfl, Nat.le_of_ble_eq_true rfl⟩) ⟨qs_blind0, fun U hU hW => ⟨rfl, by rw [hU], hNs.warm hW⟩⟩ rfl rfl hl.1 rfl (lv_room (Nat.le_of_ble_eq_true rfl)) d_N_triggers_11 ⟨Nat.le_of_ble_eq_true rfl, Nat.le_of_ble_eq_true rfl⟩) hP hD hS hA (fun H locs hP hS => ?_)
  refine lv_iconst (v := 1) hx hb d_N_triggers_14 (by decide) ?_
  refine lv_icmp_ne (tgt := 19) hx hb d_N_triggers_15 (by decide) (fun c3 => ?_) (fun c3 => ?_)
  · have hF := qs_neg c3 hF
    refine lv_iconst (v := 0) hx hb d_N_triggers_19 (by decide) ?_
    refine lv_istore_n (lv' := [(2, .int (0)), (0, .ref (h 0)), (1, .int (a1))]) hx hb d_N_triggers_20 rfl hl (by decide) rfl (fun ls hl => ?_)
    exact kb_21 200 g (a1) (0) H locs ls hP hD hS (lv_sub hl [1, 2, 0] rfl) hF
  · have hF := qs_pos c3 hF
    obtain ⟨h8, h9⟩ := qs_ret hF
    exact W.vret hx hb hr (fun t ht hW => ⟨⟨g, rfl, h9, by rw [ht]; exact hP, va_K.moved hW.alike hK, hD⟩, hS.F ht⟩) hS.2.2 d_N_triggers_18

theorem d_N_turn_0 : decode b_N_turn 0 = .ok (.aload_n 0, 1) := by decide +kernel
theorem d_N_turn_1 : decode b_N_turn 1 = .ok (.getfield 7, 3) := by decide +kernel
theorem d_N_turn_4 : decode b_N_turn 4 = .ok (.bipush 16, 2) := by decide +kernel
theorem d_N_turn_6 : decode b_N_turn 6 = .ok (.iload_n 1, 1) := by decide +kernel
theorem d_N_turn_7 : decode b_N_turn 7 = .ok (.imul, 1) := by decide +kernel
theorem d_N_turn_8 : decode b_N_turn 8 = .ok (.bipush 6, 2) := by decide +kernel
theorem d_N_turn_10 : decode b_N_turn 10 = .ok (.iadd, 1) := by decide +kernel
theorem d_N_turn_11 : decode b_N_turn 11 = .ok (.laload, 1) := by decide +kernel
theorem d_N_turn_12 : decode b_N_turn 12 = .ok (.invokestatic 113, 3) := by decide +kernel
theorem d_N_turn_15 : decode b_N_turn 15 = .ok (.istore_n 2, 1) := by decide +kernel
theorem d_N_turn_16 : decode b_N_turn 16 = .ok (.iload_n 2, 1) := by decide +kernel
theorem d_N_turn_17 : decode b_N_turn 17 = .ok (.iconst 1, 1) := by decide +kernel
theorem d_N_turn_18 : decode b_N_turn 18 = .ok (.iconst 3, 1) := by decide +kernel
theorem d_N_turn_19 : decode b_N_turn 19 = .ok (.invokestatic 65, 3) := by decide +kernel
theorem d_N_turn_22 : decode b_N_turn 22 = .ok (.ifCond .eq 72, 3) := by decide +kernel
theorem d_N_turn_25 : decode b_N_turn 25 = .ok (.iload_n 2, 1) := by decide +kernel
theorem d_N_turn_26 : decode b_N_turn 26 = .ok (.iconst 1, 1) := by decide +kernel
theorem d_N_turn_27 : decode b_N_turn 27 = .ok (.if_icmp .le 32, 3) := by decide +kernel
theorem d_N_turn_30 : decode b_N_turn 30 = .ok (.aload_n 0, 1) := by decide +kernel
theorem d_N_turn_31 : decode b_N_turn 31 = .ok (.getfield 7, 3) := by decide +kernel
theorem d_N_turn_34 : decode b_N_turn 34 = .ok (.bipush 16, 2) := by decide +kernel
theorem d_N_turn_36 : decode b_N_turn 36 = .ok (.iload_n 1, 1) := by decide +kernel
theorem d_N_turn_37 : decode b_N_turn 37 = .ok (.imul, 1) := by decide +kernel
theorem d_N_turn_38 : decode b_N_turn 38 = .ok (.iconst 3, 1) := by decide +kernel
theorem d_N_turn_39 : decode b_N_turn 39 = .ok (.iadd, 1) := by decide +kernel
theorem d_N_turn_40 : decode b_N_turn 40 = .ok (.aload_n 0, 1) := by decide +kernel
theorem d_N_turn_41 : decode b_N_turn 41 = .ok (.getfield 7, 3) := by decide +kernel
theorem d_N_turn_44 : decode b_N_turn 44 = .ok (.bipush 16, 2) := by decide +kernel
theorem d_N_turn_46 : decode b_N_turn 46 = .ok (.iload_n 1, 1) := by decide +kernel
theorem d_N_turn_47 : decode b_N_turn 47 = .ok (.imul, 1) := by decide +kernel
theorem d_N_turn_48 : decode b_N_turn 48 = .ok (.iconst 3, 1) := by decide +kernel
theorem d_N_turn_49 : decode b_N_turn 49 = .ok (.iadd, 1) := by decide +kernel
theorem d_N_turn_50 : decode b_N_turn 50 = .ok (.laload, 1) := by decide +kernel
theorem d_N_turn_51 : decode b_N_turn 51 = .ok (.ldc2_w 195, 3) := by decide +kernel
theorem d_N_turn_54 : decode b_N_turn 54 = .ok (.lsub, 1) := by decide +kernel
theorem d_N_turn_55 : decode b_N_turn 55 = .ok (.invokestatic 117, 3) := by decide +kernel
theorem d_N_turn_58 : decode b_N_turn 58 = .ok (.lastore, 1) := by decide +kernel
theorem d_N_turn_59 : decode b_N_turn 59 = .ok (.aload_n 0, 1) := by decide +kernel
theorem d_N_turn_60 : decode b_N_turn 60 = .ok (.iload_n 1, 1) := by decide +kernel
theorem d_N_turn_61 : decode b_N_turn 61 = .ok (.iconst 0, 1) := by decide +kernel
theorem d_N_turn_62 : decode b_N_turn 62 = .ok (.invokevirtual 197, 3) := by decide +kernel
theorem d_N_turn_65 : decode b_N_turn 65 = .ok (.aload_n 0, 1) := by decide +kernel
theorem d_N_turn_66 : decode b_N_turn 66 = .ok (.getfield 13, 3) := by decide +kernel
theorem d_N_turn_69 : decode b_N_turn 69 = .ok (.iload_n 1, 1) := by decide +kernel
theorem d_N_turn_70 : decode b_N_turn 70 = .ok (.baload, 1) := by decide +kernel
theorem d_N_turn_71 : decode b_N_turn 71 = .ok (.ifCond .eq 9, 3) := by decide +kernel
theorem d_N_turn_74 : decode b_N_turn 74 = .ok (.aload_n 0, 1) := by decide +kernel
theorem d_N_turn_75 : decode b_N_turn 75 = .ok (.iload_n 1, 1) := by decide +kernel
theorem d_N_turn_76 : decode b_N_turn 76 = .ok (.iconst 1, 1) := by decide +kernel
theorem d_N_turn_77 : decode b_N_turn 77 = .ok (.invokevirtual 197, 3) := by decide +kernel
theorem d_N_turn_80 : decode b_N_turn 80 = .ok (.aload_n 0, 1) := by decide +kernel
theorem d_N_turn_81 : decode b_N_turn 81 = .ok (.getfield 13, 3) := by decide +kernel
theorem d_N_turn_84 : decode b_N_turn 84 = .ok (.iload_n 1, 1) := by decide +kernel
theorem d_N_turn_85 : decode b_N_turn 85 = .ok (.baload, 1) := by decide +kernel
theorem d_N_turn_86 : decode b_N_turn 86 = .ok (.ifCond .eq 8, 3) := by decide +kernel
theorem d_N_turn_89 : decode b_N_turn 89 = .ok (.aload_n 0, 1) := by decide +kernel
theorem d_N_turn_90 : decode b_N_turn 90 = .ok (.iload_n 1, 1) := by decide +kernel
theorem d_N_turn_91 : decode b_N_turn 91 = .ok (.invokevirtual 200, 3) := by decide +kernel
theorem d_N_turn_94 : decode b_N_turn 94 = .ok (.aload_n 0, 1) := by decide +kernel
theorem d_N_turn_95 : decode b_N_turn 95 = .ok (.getfield 13, 3) := by decide +kernel
theorem d_N_turn_98 : decode b_N_turn 98 = .ok (.iload_n 1, 1) := by decide +kernel
theorem d_N_turn_99 : decode b_N_turn 99 = .ok (.baload, 1) := by decide +kernel
theorem d_N_turn_100 : decode b_N_turn 100 = .ok (.ifCond .eq 40, 3) := by decide +kernel
theorem d_N_turn_103 : decode b_N_turn 103 = .ok (.aload_n 0, 1) := by decide +kernel
theorem d_N_turn_104 : decode b_N_turn 104 = .ok (.getfield 7, 3) := by decide +kernel
theorem d_N_turn_107 : decode b_N_turn 107 = .ok (.bipush 16, 2) := by decide +kernel
theorem d_N_turn_109 : decode b_N_turn 109 = .ok (.iload_n 1, 1) := by decide +kernel
theorem d_N_turn_110 : decode b_N_turn 110 = .ok (.imul, 1) := by decide +kernel
theorem d_N_turn_111 : decode b_N_turn 111 = .ok (.bipush 10, 2) := by decide +kernel
theorem d_N_turn_113 : decode b_N_turn 113 = .ok (.iadd, 1) := by decide +kernel
theorem d_N_turn_114 : decode b_N_turn 114 = .ok (.laload, 1) := by decide +kernel
theorem d_N_turn_115 : decode b_N_turn 115 = .ok (.lconst 0, 1) := by decide +kernel
theorem d_N_turn_116 : decode b_N_turn 116 = .ok (.lcmp, 1) := by decide +kernel
theorem d_N_turn_117 : decode b_N_turn 117 = .ok (.ifCond .le 23, 3) := by decide +kernel
theorem d_N_turn_120 : decode b_N_turn 120 = .ok (.aload_n 0, 1) := by decide +kernel
theorem d_N_turn_121 : decode b_N_turn 121 = .ok (.getfield 7, 3) := by decide +kernel
theorem d_N_turn_124 : decode b_N_turn 124 = .ok (.bipush 16, 2) := by decide +kernel
theorem d_N_turn_126 : decode b_N_turn 126 = .ok (.iload_n 1, 1) := by decide +kernel
theorem d_N_turn_127 : decode b_N_turn 127 = .ok (.imul, 1) := by decide +kernel
theorem d_N_turn_128 : decode b_N_turn 128 = .ok (.bipush 10, 2) := by decide +kernel
theorem d_N_turn_130 : decode b_N_turn 130 = .ok (.iadd, 1) := by decide +kernel
theorem d_N_turn_131 : decode b_N_turn 131 = .ok (.laload, 1) := by decide +kernel
theorem d_N_turn_132 : decode b_N_turn 132 = .ok (.aload_n 0, 1) := by decide +kernel
theorem d_N_turn_133 : decode b_N_turn 133 = .ok (.getfield 146, 3) := by decide +kernel
theorem d_N_turn_136 : decode b_N_turn 136 = .ok (.lcmp, 1) := by decide +kernel
theorem d_N_turn_137 : decode b_N_turn 137 = .ok (.ifCond .le 4, 3) := by decide +kernel
theorem d_N_turn_140 : decode b_N_turn 140 = .ok (.return_, 1) := by decide +kernel
theorem d_N_turn_141 : decode b_N_turn 141 = .ok (.aload_n 0, 1) := by decide +kernel
theorem d_N_turn_142 : decode b_N_turn 142 = .ok (.getfield 7, 3) := by decide +kernel
theorem d_N_turn_145 : decode b_N_turn 145 = .ok (.bipush 16, 2) := by decide +kernel
theorem d_N_turn_147 : decode b_N_turn 147 = .ok (.iload_n 1, 1) := by decide +kernel
theorem d_N_turn_148 : decode b_N_turn 148 = .ok (.imul, 1) := by decide +kernel
theorem d_N_turn_149 : decode b_N_turn 149 = .ok (.bipush 10, 2) := by decide +kernel
theorem d_N_turn_151 : decode b_N_turn 151 = .ok (.iadd, 1) := by decide +kernel
theorem d_N_turn_152 : decode b_N_turn 152 = .ok (.lconst 0, 1) := by decide +kernel
theorem d_N_turn_153 : decode b_N_turn 153 = .ok (.lastore, 1) := by decide +kernel
theorem d_N_turn_154 : decode b_N_turn 154 = .ok (.aload_n 0, 1) := by decide +kernel
theorem d_N_turn_155 : decode b_N_turn 155 = .ok (.getfield 7, 3) := by decide +kernel
theorem d_N_turn_158 : decode b_N_turn 158 = .ok (.bipush 16, 2) := by decide +kernel
theorem d_N_turn_160 : decode b_N_turn 160 = .ok (.iload_n 1, 1) := by decide +kernel
theorem d_N_turn_161 : decode b_N_turn 161 = .ok (.imul, 1) := by decide +kernel
theorem d_N_turn_162 : decode b_N_turn 162 = .ok (.bipush 9, 2) := by decide +kernel
theorem d_N_turn_164 : decode b_N_turn 164 = .ok (.iadd, 1) := by decide +kernel
theorem d_N_turn_165 : decode b_N_turn 165 = .ok (.laload, 1) := by decide +kernel
theorem d_N_turn_166 : decode b_N_turn 166 = .ok (.invokestatic 113, 3) := by decide +kernel
theorem d_N_turn_169 : decode b_N_turn 169 = .ok (.iconst 1, 1) := by decide +kernel
theorem d_N_turn_170 : decode b_N_turn 170 = .ok (.isub, 1) := by decide +kernel
theorem d_N_turn_171 : decode b_N_turn 171 = .ok (.istore_n 3, 1) := by decide +kernel
theorem d_N_turn_172 : decode b_N_turn 172 = .ok (.aload_n 0, 1) := by decide +kernel
theorem d_N_turn_173 : decode b_N_turn 173 = .ok (.iload_n 3, 1) := by decide +kernel
theorem d_N_turn_174 : decode b_N_turn 174 = .ok (.iload_n 1, 1) := by decide +kernel
theorem d_N_turn_175 : decode b_N_turn 175 = .ok (.i2l, 1) := by decide +kernel
theorem d_N_turn_176 : decode b_N_turn 176 = .ok (.ldc2_w 203, 3) := by decide +kernel
theorem d_N_turn_179 : decode b_N_turn 179 = .ok (.iload_n 3, 1) := by decide +kernel
theorem d_N_turn_180 : decode b_N_turn 180 = .ok (.iconst 0, 1) := by decide +kernel
theorem d_N_turn_181 : decode b_N_turn 181 = .ok (.iconst 5, 1) := by decide +kernel
theorem d_N_turn_182 : decode b_N_turn 182 = .ok (.invokestatic 65, 3) := by decide +kernel
theorem d_N_turn_185 : decode b_N_turn 185 = .ok (.invokevirtual 156, 3) := by decide +kernel
theorem d_N_turn_188 : decode b_N_turn 188 = .ok (.pop, 1) := by decide +kernel
theorem d_N_turn_189 : decode b_N_turn 189 = .ok (.return_, 1) := by decide +kernel
def f_N_turn_94  (g : Sm) (x1 : Int32) : Option (Unit × Sm) := (qs_in (x1) 12 (if (g.1 2 x1.toNatClampNeg) = 0 then (some ((), g)) else (qs_in ((16 * x1) + 10) 192 (if (lg_cmp (g.2 1 ((16 * x1) + 10).toNatClampNeg) (0 : Int64)) ≤ 0 then (some ((), g)) else (qs_in ((16 * x1) + 10) 192 (if (lg_cmp (g.2 1 ((16 * x1) + 10).toNatClampNeg) (g.2 22 0)) ≤ 0 then (qs_in ((16 * x1) + 10) 192 (qs_st (qm_la g 1 ((16 * x1) + 10).toNatClampNeg ((0 : Int64))) fun u17 => (qs_in ((16 * x1) + 9) 192 (qs_pb (f_N_whole (u17.2 1 ((16 * x1) + 9).toNatClampNeg)) fun r19 => (qs_pb (f_N_in (r19 - 1) (0) (5)) fun r20 => (qs_bn (f_N_perform u17 (r19 - 1) (x1.toInt64) ((-1 : Int64)) (r20)) fun r21 u22 => (some ((), u22)))))))) else (some ((), g))))))))
def f_N_turn_80  (g : Sm) (x1 : Int32) : Option (Unit × Sm) := (qs_in (x1) 12 (if (g.1 2 x1.toNatClampNeg) = 0 then (f_N_turn_94 g (x1)) else (qs_bn (f_N_triggers g (x1)) fun _ u32 => (f_N_turn_94 u32 (x1)))))
def f_N_turn_59  (g : Sm) (x1 : Int32) : Option (Unit × Sm) := (qs_bn (f_N_go g (x1) (0)) fun _ u24 => (qs_in (x1) 12 (if (u24.1 2 x1.toNatClampNeg) = 0 then (f_N_turn_80 u24 (x1)) else (qs_bn (f_N_go u24 (x1) (1)) fun _ u28 => (f_N_turn_80 u28 (x1))))))
def f_N_turn (g : Sm) (a1 : Int32) : Option (Unit × Sm) := (qs_in ((16 * a1) + 6) 192 (qs_pb (f_N_whole (g.2 1 ((16 * a1) + 6).toNatClampNeg)) fun r2 => (qs_pb (f_N_in (r2) (1) (3)) fun r3 => (if r3 = 0 then (f_N_turn_94 g (a1)) else (if r2 ≤ 1 then (f_N_turn_59 g (a1)) else (qs_in ((16 * a1) + 3) 192 (qs_pb (f_N_clamp ((g.2 1 ((16 * a1) + 3).toNatClampNeg) - (64 : Int64))) fun r7 => (qs_in ((16 * a1) + 3) 192 (qs_st (qm_la g 1 ((16 * a1) + 3).toNatClampNeg (r7)) fun u9 => (f_N_turn_59 u9 (a1)))))))))))
set_option maxHeartbeats 4000000 in
set_option maxRecDepth 100000 in
theorem c_N_turn (l : Launch) (dC : Nat → ClassId) (dI : Nat → Nat → Nat) (h : Nat → Nat) (c : Nat → ClassId) (sz : Nat) (g : Sm) (a1 : Int32) (u0 : Sm) (hF : f_N_turn g a1 = some ((), u0)) : Met l y_N_turn (qs_ws y_N_turn b_N_turn 4 none) ({ frames := 8, cells := 0, slots := 0, locals := 207 } : Room) (va_Pc ([.ref (h 0), .int a1] : List Value) (fun U => U.heap.size = sz ∧ va_P (dC, dI) vwCl (ms_W h c g) U.heap ∧ va_K (dC, dI) vwCl (ms_T c) U ∧ va_D (fun _ => True) (ms_W h c g) ∧ qs_N U)) (va_Qv (fun (u : Sm) => u = u0) (ms_at dC dI h c (va_A (ms_W h c g) sz)) (va_A (ms_W h c g) sz)) 0 0 (va_A (ms_W h c g) sz) := by
  refine Met.ofW (cc := b_N_turn) (maxL := 4) (ret := none) (by decide +kernel) rfl ?_
  intro p e s m args below meth cd s₁ B hml hv
  obtain ⟨rfl, hsz, hP, hK, hD0, hNs⟩ := hv
  have hx := B.exec
  have hb := B.bytes
  have hr := B.returns
  have hts := atoms_spec (ws := (qs_ws y_N_turn b_N_turn 4 none)) B.pre
  have hg : ∀ w ∈ qs_gt, w.before _ s = true := fun w h => hts w (List.mem_cons_of_mem _ h)
  have hown : s.vm.findClass R_N = some m.cls := findClass_of_methodNamed B.named
  have hlocks := B.notSynchronized
  subst hsz
  have hD := hD0.self (sz := s.heap.size)
  generalize hAe : va_A (ms_W h c g) s.heap.size = A at hD ⊢
  have hA : ∀ q : Nat, s.heap.size ≤ q → A q := fun q h => by rw [← hAe]; exact Or.inr h
  have hS : va_S A s.heap s.heap [] := va_S.rf
  have kb_94 : ∀ (g : Sm) (x1 : Int32) (H : Heap) (locs : List Loc) (ls : Array Slot), va_P (dC, dI) vwCl (ms_W h c g) H → va_D A (ms_W h c g) → va_S A s.heap H locs → lv_has ls 4 [(0, .ref (h 0)), (1, .int (x1))] → f_N_turn_94  g x1 = some ((), u0) → W p l e (headSpec (qs_ws y_N_turn b_N_turn 4 none) ({ frames := 8, cells := 0, slots := 0, locals := 207 } : Room)).room s m ([.ref (h 0), .int a1] : List Value).toArray below meth cd H locs 0 0 (MQ below (va_Qv (fun (u : Sm) => u = u0) (ms_at dC dI h c A) A) ([.ref (h 0), .int a1] : List Value).toArray s 0 0 A) (F0 m 94 ls []) := by
    intro g x1 H locs ls hP hD hS hl hF
    unfold f_N_turn_94 at hF
    refine lv_aload_n hx hb d_N_turn_94 rfl (lv_at hl 0 rfl) ?_
    refine va_get (D := (dC, dI)) (ci := 7) (v := .ref (h 2)) (C := R_N) (T := T_N) (N := 22) hx hb hg in_N hown hK hP 0 rfl rfl 2 (by decide) (hg _ t_620) (fun _ h9 => h9) rfl d_N_turn_95 ?_
    refine lv_iload_n hx hb d_N_turn_98 rfl (lv_at hl 1 rfl) ?_
    obtain ⟨c10, hF⟩ := qs_in_some hF
    refine va_zald hx hb hK hP 2 1 rfl rfl c10 d_N_turn_99 ?_
    refine lv_if_eq (tgt := 140) hx hb d_N_turn_100 (by decide) (fun c11 => ?_) (fun c11 => ?_)
    · have hF := qs_pos c11 hF
      obtain ⟨h8, h9⟩ := qs_ret hF
      exact W.vret hx hb hr (fun t ht hW => ⟨⟨g, rfl, h9, by rw [ht]; exact hP, va_K.moved hW.alike hK, hD⟩, hS.F ht⟩) hS.2.2 d_N_turn_140
    · have hF := qs_neg c11 hF
      refine lv_aload_n hx hb d_N_turn_103 rfl (lv_at hl 0 rfl) ?_
      refine va_get (D := (dC, dI)) (ci := 7) (v := .ref (h 1)) (C := R_N) (T := T_N) (N := 22) hx hb hg in_N hown hK hP 0 rfl rfl 1 (by decide) (hg _ t_619) (fun _ h9 => h9) rfl d_N_turn_104 ?_
      refine lv_bipush (v := 16) hx hb d_N_turn_107 (by decide) ?_
      refine lv_iload_n hx hb d_N_turn_109 rfl (lv_at hl 1 rfl) ?_
      refine lv_imul hx hb d_N_turn_110 ?_
      refine lv_bipush (v := 10) hx hb d_N_turn_111 (by decide) ?_
      refine lv_iadd hx hb d_N_turn_113 ?_
      obtain ⟨c12, hF⟩ := qs_in_some hF
      refine va_lald hx hb hK hP 1 0 rfl rfl c12 d_N_turn_114 ?_
      refine lv_lconst (v := 0) hx hb d_N_turn_115 (by decide) ?_
      refine W.lcmp hx hb d_N_turn_116 ?_
      refine lv_if_le (tgt := 140) hx hb d_N_turn_117 (by decide) (fun c13 => ?_) (fun c13 => ?_)
      · have hF := qs_pos c13 hF
        obtain ⟨h8, h9⟩ := qs_ret hF
        exact W.vret hx hb hr (fun t ht hW => ⟨⟨g, rfl, h9, by rw [ht]; exact hP, va_K.moved hW.alike hK, hD⟩, hS.F ht⟩) hS.2.2 d_N_turn_140
      · have hF := qs_neg c13 hF
        refine lv_aload_n hx hb d_N_turn_120 rfl (lv_at hl 0 rfl) ?_
        refine va_get (D := (dC, dI)) (ci := 7) (v := .ref (h 1)) (C := R_N) (T := T_N) (N := 22) hx hb hg in_N hown hK hP 0 rfl rfl 1 (by decide) (hg _ t_619) (fun _ h9 => h9) rfl d_N_turn_121 ?_
        refine lv_bipush (v := 16) hx hb d_N_turn_124 (by decide) ?_
        refine lv_iload_n hx hb d_N_turn_126 rfl (lv_at hl 1 rfl) ?_
        refine lv_imul hx hb d_N_turn_127 ?_
        refine lv_bipush (v := 10) hx hb d_N_turn_128 (by decide) ?_
        refine lv_iadd hx hb d_N_turn_130 ?_
        obtain ⟨c14, hF⟩ := qs_in_some hF
        refine va_lald hx hb hK hP 1 0 rfl rfl c14 d_N_turn_131 ?_
        refine lv_aload_n hx hb d_N_turn_132 rfl (lv_at hl 0 rfl) ?_
        refine va_get (D := (dC, dI)) (ci := 7) (v := .long (g.2 22 0)) (C := R_N) (T := T_N) (N := 22) hx hb hg in_N hown hK hP 0 rfl rfl 13 (by decide) (hg _ t_631) (fun _ h9 => h9) rfl d_N_turn_133 ?_
        refine W.lcmp hx hb d_N_turn_136 ?_
        refine lv_if_le (tgt := 141) hx hb d_N_turn_137 (by decide) (fun c15 => ?_) (fun c15 => ?_)
        · have hF := qs_pos c15 hF
          refine lv_aload_n hx hb d_N_turn_141 rfl (lv_at hl 0 rfl) ?_
          refine va_get (D := (dC, dI)) (ci := 7) (v := .ref (h 1)) (C := R_N) (T := T_N) (N := 22) hx hb hg in_N hown hK hP 0 rfl rfl 1 (by decide) (hg _ t_619) (fun _ h9 => h9) rfl d_N_turn_142 ?_
          refine lv_bipush (v := 16) hx hb d_N_turn_145 (by decide) ?_
          refine lv_iload_n hx hb d_N_turn_147 rfl (lv_at hl 1 rfl) ?_
          refine lv_imul hx hb d_N_turn_148 ?_
          refine lv_bipush (v := 10) hx hb d_N_turn_149 (by decide) ?_
          refine lv_iadd hx hb d_N_turn_151 ?_
          refine lv_lconst (v := 0) hx hb d_N_turn_152 (by decide) ?_
          obtain ⟨c16, hF⟩ := qs_in_some hF
          refine va_last hx hb hK hP hD hS 1 0 rfl rfl c16 d_N_turn_153 (fun H locs hP hD hS => ?_)
          obtain ⟨u17, hu17, hF⟩ := qs_st_some hF
          have hP : va_P (dC, dI) vwCl (ms_W h c u17) H := by rw [hu17]; exact hP
          have hD : va_D A (ms_W h c u17) := by rw [hu17]; exact hD
          clear hu17
          refine lv_aload_n hx hb d_N_turn_154 rfl (lv_at hl 0 rfl) ?_
          refine va_get (D := (dC, dI)) (ci := 7) (v := .ref (h 1)) (C := R_N) (T := T_N) (N := 22) hx hb hg in_N hown hK hP 0 rfl rfl 1 (by decide) (hg _ t_619) (fun _ h9 => h9) rfl d_N_turn_155 ?_
          refine lv_bipush (v := 16) hx hb d_N_turn_158 (by decide) ?_
          refine lv_iload_n hx hb d_N_turn_160 rfl (lv_at hl 1 rfl) ?_
          refine lv_imul hx hb d_N_turn_161 ?_
          refine lv_bipush (v := 9) hx hb d_N_turn_162 (by decide) ?_
          refine lv_iadd hx hb d_N_turn_164 ?_
          obtain ⟨c18, hF⟩ := qs_in_some hF
          refine va_lald hx hb hK hP 1 0 rfl rfl c18 d_N_turn_165 ?_
          obtain ⟨r19, hX, hF⟩ := qs_pb_some hF
          refine qs_psi (va_runS (own := "QuakeServerModel") (As := [.long (u17.2 1 ((16 * x1) + 9).toNatClampNeg)]) (rest := []) ⟨hx, hb, hml, hown, hg⟩ (c_N_whole l H.size (u17.2 1 ((16 * x1) + 9).toNatClampNeg) r19 hX) (va_cwS 1 hg (qs_gS t_773 t_774 t_8 t_775) rfl rfl rfl (by decide +kernel) ⟨Nat.le_of_ble_eq_true rfl, Nat.le_of_ble_eq_true rfl⟩) ⟨qs_blind0, fun U hU hW => ⟨rfl, by rw [hU], hNs.warm hW⟩⟩ rfl rfl hl.1 rfl (lv_room (Nat.le_of_ble_eq_true rfl)) d_N_turn_166 ⟨Nat.le_of_ble_eq_true rfl, Nat.le_of_ble_eq_true rfl⟩) hP hD hS hA (fun H locs hP hS => ?_)
          refine lv_iconst (v := 1) hx hb d_N_turn_169 (by decide) ?_
          refine lv_isub hx hb d_N_turn_170 ?_
          refine lv_istore_n (lv' := [(3, .int (r19 - 1)), (0, .ref (h 0)), (1, .int (x1))]) hx hb d_N_turn_171 rfl hl (by decide) rfl (fun ls hl => ?_)
          refine lv_aload_n hx hb d_N_turn_172 rfl (lv_at hl 1 rfl) ?_
          refine lv_iload_n hx hb d_N_turn_173 rfl (lv_at hl 0 rfl) ?_
          refine lv_iload_n hx hb d_N_turn_174 rfl (lv_at hl 2 rfl) ?_
          refine lv_i2l (v := x1.toInt64) hx hb d_N_turn_175 rfl ?_
          refine lv_ldc2 (v := (-1)) hx hb hown (hg _ t_841) d_N_turn_176 ?_
          refine lv_iload_n hx hb d_N_turn_179 rfl (lv_at hl 0 rfl) ?_
          refine lv_iconst (v := 0) hx hb d_N_turn_180 (by decide) ?_
          refine lv_iconst (v := 5) hx hb d_N_turn_181 (by decide) ?_
          obtain ⟨r20, hX, hF⟩ := qs_pb_some hF
          refine qs_psi (va_runS (own := "QuakeServerModel") (As := [.int (r19 - 1), .int (0), .int (5)]) (rest := [.long ((-1 : Int64)), .long (x1.toInt64), .int (r19 - 1), .ref (h 0)]) ⟨hx, hb, hml, hown, hg⟩ (c_N_in l H.size (r19 - 1) (0) (5) r20 hX) (va_cwS 3 hg (qs_gS t_694 t_695 t_8 t_696) rfl rfl rfl (by decide +kernel) ⟨Nat.le_of_ble_eq_true rfl, Nat.le_of_ble_eq_true rfl⟩) ⟨qs_blind0, fun U hU hW => ⟨rfl, by rw [hU], hNs.warm hW⟩⟩ rfl rfl hl.1 rfl (lv_room (Nat.le_of_ble_eq_true rfl)) d_N_turn_182 ⟨Nat.le_of_ble_eq_true rfl, Nat.le_of_ble_eq_true rfl⟩) hP hD hS hA (fun H locs hP hS => ?_)
          obtain ⟨r21, u22, hX, hF⟩ := qs_bn_some hF
          refine qs_ci (Wd := ms_W h c) (isC := [0, 1, 2, 3, 4, 5, 6, 7, 8, 9, 10, 11, 12]) (va_runV (own := "QuakeServerModel") (C := "QuakeServerModel") (As := [.int (r19 - 1), .long (x1.toInt64), .long ((-1 : Int64)), .int (r20)]) (rest := []) ⟨hx, hb, hml, hown, hg⟩ (c_N_perform l dC dI h c H.size u17 (r19 - 1) (x1.toInt64) ((-1 : Int64)) (r20) r21 u22 hX) (cwV 4 hg (qs_gV t_757 t_759 tp_20 t_8 t_760) rfl rfl rfl (by decide +kernel) ⟨Nat.le_of_ble_eq_true rfl, Nat.le_of_ble_eq_true rfl⟩) ⟨qs_blind, va_recv hK hP (ci := 7) (q0 := 0) rfl rfl, fun U hU hW => ⟨rfl, by rw [hU], by rw [hU]; exact hP, va_K.moved hW.alike hK, hD.weaken (fun _ _ _ _ => trivial), hNs.warm hW⟩⟩ rfl rfl hl.1 rfl (lv_room (Nat.le_of_ble_eq_true rfl)) d_N_turn_185 ⟨Nat.le_of_ble_eq_true rfl, Nat.le_of_ble_eq_true rfl⟩) rfl hP hD hS hA (fun H locs hP hD hS => ?_)
          refine lv_pop hx hb d_N_turn_188 rfl ?_
          obtain ⟨h8, h9⟩ := qs_ret hF
          exact W.vret hx hb hr (fun t ht hW => ⟨⟨u22, rfl, h9, by rw [ht]; exact hP, va_K.moved hW.alike hK, hD⟩, hS.F ht⟩) hS.2.2 d_N_turn_189
        · have hF := qs_neg c15 hF
          obtain ⟨h8, h9⟩ := qs_ret hF
          exact W.vret hx hb hr (fun t ht hW => ⟨⟨g, rfl, h9, by rw [ht]; exact hP, va_K.moved hW.alike hK, hD⟩, hS.F ht⟩) hS.2.2 d_N_turn_140
  have kb_80 : ∀ (g : Sm) (x1 : Int32) (H : Heap) (locs : List Loc) (ls : Array Slot), va_P (dC, dI) vwCl (ms_W h c g) H → va_D A (ms_W h c g) → va_S A s.heap H locs → lv_has ls 4 [(0, .ref (h 0)), (1, .int (x1))] → f_N_turn_80  g x1 = some ((), u0) → W p l e (headSpec (qs_ws y_N_turn b_N_turn 4 none) ({ frames := 8, cells := 0, slots := 0, locals := 207 } : Room)).room s m ([.ref (h 0), .int a1] : List Value).toArray below meth cd H locs 0 0 (MQ below (va_Qv (fun (u : Sm) => u = u0) (ms_at dC dI h c A) A) ([.ref (h 0), .int a1] : List Value).toArray s 0 0 A) (F0 m 80 ls []) := by
    intro g x1 H locs ls hP hD hS hl hF
    unfold f_N_turn_80 at hF
    refine lv_aload_n hx hb d_N_turn_80 rfl (lv_at hl 0 rfl) ?_
    refine va_get (D := (dC, dI)) (ci := 7) (v := .ref (h 2)) (C := R_N) (T := T_N) (N := 22) hx hb hg in_N hown hK hP 0 rfl rfl 2 (by decide) (hg _ t_620) (fun _ h9 => h9) rfl d_N_turn_81 ?_
    refine lv_iload_n hx hb d_N_turn_84 rfl (lv_at hl 1 rfl) ?_
    obtain ⟨c29, hF⟩ := qs_in_some hF
    refine va_zald hx hb hK hP 2 1 rfl rfl c29 d_N_turn_85 ?_
    refine lv_if_eq (tgt := 94) hx hb d_N_turn_86 (by decide) (fun c30 => ?_) (fun c30 => ?_)
    · have hF := qs_pos c30 hF
      exact kb_94 g (x1) H locs ls hP hD hS (lv_sub hl [0, 1] rfl) hF
    · have hF := qs_neg c30 hF
      refine lv_aload_n hx hb d_N_turn_89 rfl (lv_at hl 0 rfl) ?_
      refine lv_iload_n hx hb d_N_turn_90 rfl (lv_at hl 1 rfl) ?_
      obtain ⟨r31, u32, hX, hF⟩ := qs_bn_some hF
      refine qs_cv (Wd := ms_W h c) (isC := [0, 1, 2, 3, 4, 5, 6, 7, 8, 9, 10, 11, 12]) (va_runV (own := "QuakeServerModel") (C := "QuakeServerModel") (As := [.int (x1)]) (rest := []) ⟨hx, hb, hml, hown, hg⟩ (c_N_triggers l dC dI h c H.size g (x1)  u32 hX) (cwV 1 hg (qs_gV t_837 t_839 tp_34 t_8 t_840) rfl rfl rfl (by decide +kernel) ⟨Nat.le_of_ble_eq_true rfl, Nat.le_of_ble_eq_true rfl⟩) ⟨qs_blind, va_recv hK hP (ci := 7) (q0 := 0) rfl rfl, fun U hU hW => ⟨rfl, by rw [hU], by rw [hU]; exact hP, va_K.moved hW.alike hK, hD.weaken (fun _ _ _ _ => trivial), hNs.warm hW⟩⟩ rfl rfl hl.1 rfl (lv_room (Nat.le_of_ble_eq_true rfl)) d_N_turn_91 ⟨Nat.le_of_ble_eq_true rfl, Nat.le_of_ble_eq_true rfl⟩) rfl hP hD hS hA (fun H locs hP hD hS => ?_)
      exact kb_94 u32 (x1) H locs ls hP hD hS (lv_sub hl [0, 1] rfl) hF
  have kb_59 : ∀ (g : Sm) (x1 : Int32) (H : Heap) (locs : List Loc) (ls : Array Slot), va_P (dC, dI) vwCl (ms_W h c g) H → va_D A (ms_W h c g) → va_S A s.heap H locs → lv_has ls 4 [(0, .ref (h 0)), (1, .int (x1))] → f_N_turn_59  g x1 = some ((), u0) → W p l e (headSpec (qs_ws y_N_turn b_N_turn 4 none) ({ frames := 8, cells := 0, slots := 0, locals := 207 } : Room)).room s m ([.ref (h 0), .int a1] : List Value).toArray below meth cd H locs 0 0 (MQ below (va_Qv (fun (u : Sm) => u = u0) (ms_at dC dI h c A) A) ([.ref (h 0), .int a1] : List Value).toArray s 0 0 A) (F0 m 59 ls []) := by
    intro g x1 H locs ls hP hD hS hl hF
    unfold f_N_turn_59 at hF
    refine lv_aload_n hx hb d_N_turn_59 rfl (lv_at hl 0 rfl) ?_
    refine lv_iload_n hx hb d_N_turn_60 rfl (lv_at hl 1 rfl) ?_
    refine lv_iconst (v := 0) hx hb d_N_turn_61 (by decide) ?_
    obtain ⟨r23, u24, hX, hF⟩ := qs_bn_some hF
    refine qs_cv (Wd := ms_W h c) (isC := [0, 1, 2, 3, 4, 5, 6, 7, 8, 9, 10, 11, 12]) (va_runV (own := "QuakeServerModel") (C := "QuakeServerModel") (As := [.int (x1), .int (0)]) (rest := []) ⟨hx, hb, hml, hown, hg⟩ (c_N_go l dC dI h c H.size g (x1) (0)  u24 hX) (cwV 2 hg (qs_gV t_808 t_810 tp_28 t_8 t_811) rfl rfl rfl (by decide +kernel) ⟨Nat.le_of_ble_eq_true rfl, Nat.le_of_ble_eq_true rfl⟩) ⟨qs_blind, va_recv hK hP (ci := 7) (q0 := 0) rfl rfl, fun U hU hW => ⟨rfl, by rw [hU], by rw [hU]; exact hP, va_K.moved hW.alike hK, hD.weaken (fun _ _ _ _ => trivial), hNs.warm hW⟩⟩ rfl rfl hl.1 rfl (lv_room (Nat.le_of_ble_eq_true rfl)) d_N_turn_62 ⟨Nat.le_of_ble_eq_true rfl, Nat.le_of_ble_eq_true rfl⟩) rfl hP hD hS hA (fun H locs hP hD hS => ?_)
    refine lv_aload_n hx hb d_N_turn_65 rfl (lv_at hl 0 rfl) ?_
    refine va_get (D := (dC, dI)) (ci := 7) (v := .ref (h 2)) (C := R_N) (T := T_N) (N := 22) hx hb hg in_N hown hK hP 0 rfl rfl 2 (by decide) (hg _ t_620) (fun _ h9 => h9) rfl d_N_turn_66 ?_
    refine lv_iload_n hx hb d_N_turn_69 rfl (lv_at hl 1 rfl) ?_
    obtain ⟨c25, hF⟩ := qs_in_some hF
    refine va_zald hx hb hK hP 2 1 rfl rfl c25 d_N_turn_70 ?_
    refine lv_if_eq (tgt := 80) hx hb d_N_turn_71 (by decide) (fun c26 => ?_) (fun c26 => ?_)
    · have hF := qs_pos c26 hF
      exact kb_80 u24 (x1) H locs ls hP hD hS (lv_sub hl [0, 1] rfl) hF
    · have hF := qs_neg c26 hF
      refine lv_aload_n hx hb d_N_turn_74 rfl (lv_at hl 0 rfl) ?_
      refine lv_iload_n hx hb d_N_turn_75 rfl (lv_at hl 1 rfl) ?_
      refine lv_iconst (v := 1) hx hb d_N_turn_76 (by decide) ?_
      obtain ⟨r27, u28, hX, hF⟩ := qs_bn_some hF
      refine qs_cv (Wd := ms_W h c) (isC := [0, 1, 2, 3, 4, 5, 6, 7, 8, 9, 10, 11, 12]) (va_runV (own := "QuakeServerModel") (C := "QuakeServerModel") (As := [.int (x1), .int (1)]) (rest := []) ⟨hx, hb, hml, hown, hg⟩ (c_N_go l dC dI h c H.size u24 (x1) (1)  u28 hX) (cwV 2 hg (qs_gV t_808 t_810 tp_28 t_8 t_811) rfl rfl rfl (by decide +kernel) ⟨Nat.le_of_ble_eq_true rfl, Nat.le_of_ble_eq_true rfl⟩) ⟨qs_blind, va_recv hK hP (ci := 7) (q0 := 0) rfl rfl, fun U hU hW => ⟨rfl, by rw [hU], by rw [hU]; exact hP, va_K.moved hW.alike hK, hD.weaken (fun _ _ _ _ => trivial), hNs.warm hW⟩⟩ rfl rfl hl.1 rfl (lv_room (Nat.le_of_ble_eq_true rfl)) d_N_turn_77 ⟨Nat.le_of_ble_eq_true rfl, Nat.le_of_ble_eq_true rfl⟩) rfl hP hD hS hA (fun H locs hP hD hS => ?_)
      exact kb_80 u28 (x1) H locs ls hP hD hS (lv_sub hl [0, 1] rfl) hF
  have hl := lv_entry ([.ref (h 0), .int a1] : List Value) (n := 4) (Nat.le_of_ble_eq_true rfl)
  rw [lg_entry_eq]
  generalize (lg_sl ([.ref (h 0), .int a1] : List Value) ++ List.replicate (4 - (lg_sl ([.ref (h 0), .int a1] : List Value)).length) Slot.unset).toArray = ls at hl ⊢
  have hl : lv_has ls 4 [(0, .ref (h 0)), (1, .int (a1))] := hl
  unfold f_N_turn at hF
  obtain ⟨H, hHe⟩ : ∃ H, H = s.heap := ⟨_, rfl⟩
  obtain ⟨locs, hLe⟩ : ∃ L : List Loc, L = [] := ⟨_, rfl⟩
  rw [← hHe] at hP ⊢
  rw [← hLe]
  have hS : va_S A s.heap H locs := by rw [hHe, hLe]; exact hS
  refine lv_aload_n hx hb d_N_turn_0 rfl (lv_at hl 0 rfl) ?_
  refine va_get (D := (dC, dI)) (ci := 7) (v := .ref (h 1)) (C := R_N) (T := T_N) (N := 22) hx hb hg in_N hown hK hP 0 rfl rfl 1 (by decide) (hg _ t_619) (fun _ h9 => h9) rfl d_N_turn_1 ?_
  refine lv_bipush (v := 16) hx hb d_N_turn_4 (by decide) ?_
  refine lv_iload_n hx hb d_N_turn_6 rfl (lv_at hl 1 rfl) ?_
  refine lv_imul hx hb d_N_turn_7 ?_
  refine lv_bipush (v := 6) hx hb d_N_turn_8 (by decide) ?_
  refine lv_iadd hx hb d_N_turn_10 ?_
  obtain ⟨c1, hF⟩ := qs_in_some hF
  refine va_lald hx hb hK hP 1 0 rfl rfl c1 d_N_turn_11 ?_
  obtain ⟨r2, hX, hF⟩ := qs_pb_some hF
  refine qs_psi (va_runS (own := "QuakeServerModel") (As := [.long (g.2 1 ((16 * a1) + 6).toNatClampNeg)]) (rest := []) ⟨hx, hb, hml, hown, hg⟩ (c_N_whole l H.size (g.2 1 ((16 * a1) + 6).toNatClampNeg) r2 hX) (va_cwS 1 hg (qs_gS t_773 t_774 t_8 t_775) rfl rfl rfl (by decide +kernel) ⟨Nat.le_of_ble_eq_true rfl, Nat.le_of_ble_eq_true rfl⟩) ⟨qs_blind0, fun U hU hW => ⟨rfl, by rw [hU], hNs.warm hW⟩⟩ rfl rfl hl.1 rfl (lv_room (Nat.le_of_ble_eq_true rfl)) d_N_turn_12 ⟨Nat.le_of_ble_eq_true rfl, Nat.le_of_ble_eq_true rfl⟩) hP hD hS hA (fun H locs hP hS => ?_)
  refine lv_istore_n (lv' := [(2, .int (r2)), (0, .ref (h 0)), (1, .int (a1))]) hx hb d_N_turn_15 rfl hl (by decide) rfl (fun ls hl => ?_)
  refine lv_iload_n hx hb d_N_turn_16 rfl (lv_at hl 0 rfl) ?_
  refine lv_iconst (v := 1) hx hb d_N_turn_17 (by decide) ?_
  refine lv_iconst (v := 3) hx hb d_N_turn_18 (by decide) ?_
  obtain ⟨r3, hX, hF⟩ := qs_pb_some hF
  refine qs_psi (va_runS (own := "QuakeServerModel") (As := [.int (r2), .int (1), .int (3)]) (rest := []) ⟨hx, hb, hml, hown, hg⟩ (c_N_in l H.size (r2) (1) (3) r3 hX) (va_cwS 3 hg (qs_gS t_694 t_695 t_8 t_696) rfl rfl rfl (by decide +kernel) ⟨Nat.le_of_ble_eq_true rfl, Nat.le_of_ble_eq_true rfl⟩) ⟨qs_blind0, fun U hU hW => ⟨rfl, by rw [hU], hNs.warm hW⟩⟩ rfl rfl hl.1 rfl (lv_room (Nat.le_of_ble_eq_true rfl)) d_N_turn_19 ⟨Nat.le_of_ble_eq_true rfl, Nat.le_of_ble_eq_true rfl⟩) hP hD hS hA (fun H locs hP hS => ?_)
  refine lv_if_eq (tgt := 94) hx hb d_N_turn_22 (by decide) (fun c4 => ?_) (fun c4 => ?_)
  · have hF := qs_pos c4 hF
    exact kb_94 g (a1) H locs ls hP hD hS (lv_sub hl [1, 2] rfl) hF
  · have hF := qs_neg c4 hF
    refine lv_iload_n hx hb d_N_turn_25 rfl (lv_at hl 0 rfl) ?_
    refine lv_iconst (v := 1) hx hb d_N_turn_26 (by decide) ?_
    refine lv_icmp_le (tgt := 59) hx hb d_N_turn_27 (by decide) (fun c5 => ?_) (fun c5 => ?_)
    · have hF := qs_pos c5 hF
      exact kb_59 g (a1) H locs ls hP hD hS (lv_sub hl [1, 2] rfl) hF
    · have hF := qs_neg c5 hF
      refine lv_aload_n hx hb d_N_turn_30 rfl (lv_at hl 1 rfl) ?_
      refine va_get (D := (dC, dI)) (ci := 7) (v := .ref (h 1)) (C := R_N) (T := T_N) (N := 22) hx hb hg in_N hown hK hP 0 rfl rfl 1 (by decide) (hg _ t_619) (fun _ h9 => h9) rfl d_N_turn_31 ?_
      refine lv_bipush (v := 16) hx hb d_N_turn_34 (by decide) ?_
      refine lv_iload_n hx hb d_N_turn_36 rfl (lv_at hl 2 rfl) ?_
      refine lv_imul hx hb d_N_turn_37 ?_
      refine lv_iconst (v := 3) hx hb d_N_turn_38 (by decide) ?_
      refine lv_iadd hx hb d_N_turn_39 ?_
      refine lv_aload_n hx hb d_N_turn_40 rfl (lv_at hl 1 rfl) ?_
      refine va_get (D := (dC, dI)) (ci := 7) (v := .ref (h 1)) (C := R_N) (T := T_N) (N := 22) hx hb hg in_N hown hK hP 0 rfl rfl 1 (by decide) (hg _ t_619) (fun _ h9 => h9) rfl d_N_turn_41 ?_
      refine lv_bipush (v := 16) hx hb d_N_turn_44 (by decide) ?_
      refine lv_iload_n hx hb d_N_turn_46 rfl (lv_at hl 2 rfl) ?_
      refine lv_imul hx hb d_N_turn_47 ?_
      refine lv_iconst (v := 3) hx hb d_N_turn_48 (by decide) ?_
      refine lv_iadd hx hb d_N_turn_49 ?_
      obtain ⟨c6, hF⟩ := qs_in_some hF
      refine va_lald hx hb hK hP 1 0 rfl rfl c6 d_N_turn_50 ?_
      refine lv_ldc2 (v := 64) hx hb hown (hg _ t_807) d_N_turn_51 ?_
      refine lv_lsub hx hb d_N_turn_54 ?_
      obtain ⟨r7, hX, hF⟩ := qs_pb_some hF
      refine qs_psl (va_runS (own := "QuakeServerModel") (As := [.long ((g.2 1 ((16 * a1) + 3).toNatClampNeg) - (64 : Int64))]) (rest := [.int ((16 * a1) + 3), .ref (h 1)]) ⟨hx, hb, hml, hown, hg⟩ (c_N_clamp l H.size ((g.2 1 ((16 * a1) + 3).toNatClampNeg) - (64 : Int64)) r7 hX) (va_cwS 1 hg (qs_gS t_783 t_784 t_8 t_785) rfl rfl rfl (by decide +kernel) ⟨Nat.le_of_ble_eq_true rfl, Nat.le_of_ble_eq_true rfl⟩) ⟨qs_blind0, fun U hU hW => ⟨rfl, by rw [hU], hNs.warm hW⟩⟩ rfl rfl hl.1 rfl (lv_room (Nat.le_of_ble_eq_true rfl)) d_N_turn_55 ⟨Nat.le_of_ble_eq_true rfl, Nat.le_of_ble_eq_true rfl⟩) hP hD hS hA (fun H locs hP hS => ?_)
      obtain ⟨c8, hF⟩ := qs_in_some hF
      refine va_last hx hb hK hP hD hS 1 0 rfl rfl c8 d_N_turn_58 (fun H locs hP hD hS => ?_)
      obtain ⟨u9, hu9, hF⟩ := qs_st_some hF
      have hP : va_P (dC, dI) vwCl (ms_W h c u9) H := by rw [hu9]; exact hP
      have hD : va_D A (ms_W h c u9) := by rw [hu9]; exact hD
      clear hu9
      exact kb_59 u9 (a1) H locs ls hP hD hS (lv_sub hl [1, 2] rfl) hF

theorem d_N_present_0 : decode b_N_present 0 = .ok (.iconst 0, 1) := by decide +kernel
theorem d_N_present_1 : decode b_N_present 1 = .ok (.istore_n 1, 1) := by decide +kernel
theorem d_N_present_2 : decode b_N_present 2 = .ok (.iconst 0, 1) := by decide +kernel
theorem d_N_present_3 : decode b_N_present 3 = .ok (.istore_n 2, 1) := by decide +kernel
theorem d_N_present_4 : decode b_N_present 4 = .ok (.iload_n 2, 1) := by decide +kernel
theorem d_N_present_5 : decode b_N_present 5 = .ok (.bipush 12, 2) := by decide +kernel
theorem d_N_present_7 : decode b_N_present 7 = .ok (.if_icmp .ge 21, 3) := by decide +kernel
theorem d_N_present_10 : decode b_N_present 10 = .ok (.aload_n 0, 1) := by decide +kernel
theorem d_N_present_11 : decode b_N_present 11 = .ok (.getfield 13, 3) := by decide +kernel
theorem d_N_present_14 : decode b_N_present 14 = .ok (.iload_n 2, 1) := by decide +kernel
theorem d_N_present_15 : decode b_N_present 15 = .ok (.baload, 1) := by decide +kernel
theorem d_N_present_16 : decode b_N_present 16 = .ok (.ifCond .eq 6, 3) := by decide +kernel
theorem d_N_present_19 : decode b_N_present 19 = .ok (.iinc 1 1, 3) := by decide +kernel
theorem d_N_present_22 : decode b_N_present 22 = .ok (.iinc 2 1, 3) := by decide +kernel
theorem d_N_present_25 : decode b_N_present 25 = .ok (.goto (-21), 3) := by decide +kernel
theorem d_N_present_28 : decode b_N_present 28 = .ok (.iload_n 1, 1) := by decide +kernel
theorem d_N_present_29 : decode b_N_present 29 = .ok (.ireturn, 1) := by decide +kernel
def f_N_present_22 (k4 : Sm → Int32 → Int32 → Option (Int32 × Sm)) (g : Sm) (x1 : Int32) (x2 : Int32) : Option (Int32 × Sm) := (k4 g (x1) (x2 + 1))
def f_N_present_4  : Nat → Sm → Int32 → Int32 → Option (Int32 × Sm)
  | 0, _, _, _ => none
  | n + 1, g, x1, x2 => (if 12 ≤ x2 then (some (x1, g)) else (qs_in (x2) 12 (if (g.1 2 x2.toNatClampNeg) = 0 then (f_N_present_22 (fun g x1 x2 => f_N_present_4  n g x1 x2) g (x1) (x2)) else (f_N_present_22 (fun g x1 x2 => f_N_present_4  n g x1 x2) g (x1 + 1) (x2)))))
def f_N_present (g : Sm)  : Option (Int32 × Sm) := (f_N_present_4 200 g (0) (0))
set_option maxHeartbeats 4000000 in
set_option maxRecDepth 100000 in
theorem c_N_present (l : Launch) (dC : Nat → ClassId) (dI : Nat → Nat → Nat) (h : Nat → Nat) (c : Nat → ClassId) (sz : Nat) (g : Sm)  (r0 : Int32) (u0 : Sm) (hF : f_N_present g  = some (r0, u0)) : Met l y_N_present (qs_ws y_N_present b_N_present 3 (some .int)) ({ frames := 0, cells := 0, slots := 0, locals := 0 } : Room) (va_Pc ([.ref (h 0)] : List Value) (fun U => U.heap.size = sz ∧ va_P (dC, dI) vwCl (ms_W h c g) U.heap ∧ va_K (dC, dI) vwCl (ms_T c) U ∧ va_D (fun _ => True) (ms_W h c g) ∧ qs_N U)) (va_Qi (fun (r : Int32) (u : Sm) => r = r0 ∧ u = u0) (ms_at dC dI h c (va_A (ms_W h c g) sz)) (va_A (ms_W h c g) sz)) 0 0 (va_A (ms_W h c g) sz) := by
  refine Met.ofW (cc := b_N_present) (maxL := 3) (ret := (some .int)) (by decide +kernel) rfl ?_
  intro p e s m args below meth cd s₁ B hml hv
  obtain ⟨rfl, hsz, hP, hK, hD0, hNs⟩ := hv
  have hx := B.exec
  have hb := B.bytes
  have hr := B.returns
  have hts := atoms_spec (ws := (qs_ws y_N_present b_N_present 3 (some .int))) B.pre
  have hg : ∀ w ∈ qs_gt, w.before _ s = true := fun w h => hts w (List.mem_cons_of_mem _ h)
  have hown : s.vm.findClass R_N = some m.cls := findClass_of_methodNamed B.named
  have hlocks := B.notSynchronized
  subst hsz
  have hD := hD0.self (sz := s.heap.size)
  generalize hAe : va_A (ms_W h c g) s.heap.size = A at hD ⊢
  have hA : ∀ q : Nat, s.heap.size ≤ q → A q := fun q h => by rw [← hAe]; exact Or.inr h
  have hS : va_S A s.heap s.heap [] := va_S.rf
  have kb_22 : ∀ (k4 : Sm → Int32 → Int32 → Option (Int32 × Sm)), (∀ (g : Sm) (x1 : Int32) (x2 : Int32) (H : Heap) (locs : List Loc) (ls : Array Slot), va_P (dC, dI) vwCl (ms_W h c g) H → va_D A (ms_W h c g) → va_S A s.heap H locs → lv_has ls 3 [(0, .ref (h 0)), (1, .int (x1)), (2, .int (x2))] → k4 g x1 x2 = some (r0, u0) → W p l e (headSpec (qs_ws y_N_present b_N_present 3 (some .int)) ({ frames := 0, cells := 0, slots := 0, locals := 0 } : Room)).room s m ([.ref (h 0)] : List Value).toArray below meth cd H locs 0 0 (MQ below (va_Qi (fun (r : Int32) (u : Sm) => r = r0 ∧ u = u0) (ms_at dC dI h c A) A) ([.ref (h 0)] : List Value).toArray s 0 0 A) (F0 m 4 ls [])) → ∀ (g : Sm) (x1 : Int32) (x2 : Int32) (H : Heap) (locs : List Loc) (ls : Array Slot), va_P (dC, dI) vwCl (ms_W h c g) H → va_D A (ms_W h c g) → va_S A s.heap H locs → lv_has ls 3 [(0, .ref (h 0)), (1, .int (x1)), (2, .int (x2))] → f_N_present_22 k4  g x1 x2 = some (r0, u0) → W p l e (headSpec (qs_ws y_N_present b_N_present 3 (some .int)) ({ frames := 0, cells := 0, slots := 0, locals := 0 } : Room)).room s m ([.ref (h 0)] : List Value).toArray below meth cd H locs 0 0 (MQ below (va_Qi (fun (r : Int32) (u : Sm) => r = r0 ∧ u = u0) (ms_at dC dI h c A) A) ([.ref (h 0)] : List Value).toArray s 0 0 A) (F0 m 22 ls []) := by
    intro k4 hk4
    intro g x1 x2 H locs ls hP hD hS hl hF
    unfold f_N_present_22 at hF
    refine lv_iinc (v := x2 + 1) (lv' := [(2, .int (x2 + 1)), (0, .ref (h 0)), (1, .int (x1))]) hx hb d_N_present_22 hl (k := 2) rfl (by rfl) (by decide) rfl (fun ls hl => ?_)
    refine lv_goto (tgt := 4) hx hb d_N_present_25 (by decide) ?_
    exact hk4 g (x1) (x2 + 1) H locs ls hP hD hS (lv_sub hl [1, 2, 0] rfl) hF
  have kb_4 : ∀ n : Nat, ∀ (g : Sm) (x1 : Int32) (x2 : Int32) (H : Heap) (locs : List Loc) (ls : Array Slot), va_P (dC, dI) vwCl (ms_W h c g) H → va_D A (ms_W h c g) → va_S A s.heap H locs → lv_has ls 3 [(0, .ref (h 0)), (1, .int (x1)), (2, .int (x2))] → f_N_present_4 n g x1 x2 = some (r0, u0) → W p l e (headSpec (qs_ws y_N_present b_N_present 3 (some .int)) ({ frames := 0, cells := 0, slots := 0, locals := 0 } : Room)).room s m ([.ref (h 0)] : List Value).toArray below meth cd H locs 0 0 (MQ below (va_Qi (fun (r : Int32) (u : Sm) => r = r0 ∧ u = u0) (ms_at dC dI h c A) A) ([.ref (h 0)] : List Value).toArray s 0 0 A) (F0 m 4 ls []) := by
    intro n
    induction n with
    | zero =>
      intro g x1 x2 H locs ls hP hD hS hl hF
      exact nomatch (show (none : Option (Int32 × Sm)) = some _ from hF)
    | succ n ih =>
      intro g x1 x2 H locs ls hP hD hS hl hF
      rw [f_N_present_4] at hF
      refine lv_iload_n hx hb d_N_present_4 rfl (lv_at hl 2 rfl) ?_
      refine lv_bipush (v := 12) hx hb d_N_present_5 (by decide) ?_
      refine lv_icmp_ge (tgt := 28) hx hb d_N_present_7 (by decide) (fun c1 => ?_) (fun c1 => ?_)
      · have hF := qs_pos c1 hF
        refine lv_iload_n hx hb d_N_present_28 rfl (lv_at hl 1 rfl) ?_
        obtain ⟨h8, h9⟩ := qs_ret hF
        exact W.iret (v := x1) hx hb hr (fun t ht hW => ⟨⟨x1, g, rfl, ⟨h8, h9⟩, by rw [ht]; exact hP, va_K.moved hW.alike hK, hD⟩, hS.F ht⟩) hS.2.2 d_N_present_29
      · have hF := qs_neg c1 hF
        refine lv_aload_n hx hb d_N_present_10 rfl (lv_at hl 0 rfl) ?_
        refine va_get (D := (dC, dI)) (ci := 7) (v := .ref (h 2)) (C := R_N) (T := T_N) (N := 22) hx hb hg in_N hown hK hP 0 rfl rfl 2 (by decide) (hg _ t_620) (fun _ h9 => h9) rfl d_N_present_11 ?_
        refine lv_iload_n hx hb d_N_present_14 rfl (lv_at hl 2 rfl) ?_
        obtain ⟨c2, hF⟩ := qs_in_some hF
        refine va_zald hx hb hK hP 2 1 rfl rfl c2 d_N_present_15 ?_
        refine lv_if_eq (tgt := 22) hx hb d_N_present_16 (by decide) (fun c3 => ?_) (fun c3 => ?_)
        · have hF := qs_pos c3 hF
          exact kb_22 _ ih g (x1) (x2) H locs ls hP hD hS (lv_sub hl [0, 1, 2] rfl) hF
        · have hF := qs_neg c3 hF
          refine lv_iinc (v := x1 + 1) (lv' := [(1, .int (x1 + 1)), (0, .ref (h 0)), (2, .int (x2))]) hx hb d_N_present_19 hl (k := 1) rfl (by rfl) (by decide) rfl (fun ls hl => ?_)
          exact kb_22 _ ih g (x1 + 1) (x2) H locs ls hP hD hS (lv_sub hl [1, 0, 2] rfl) hF
  have hl := lv_entry ([.ref (h 0)] : List Value) (n := 3) (Nat.le_of_ble_eq_true rfl)
  rw [lg_entry_eq]
  generalize (lg_sl ([.ref (h 0)] : List Value) ++ List.replicate (3 - (lg_sl ([.ref (h 0)] : List Value)).length) Slot.unset).toArray = ls at hl ⊢
  have hl : lv_has ls 3 [(0, .ref (h 0))] := hl
  unfold f_N_present at hF
  obtain ⟨H, hHe⟩ : ∃ H, H = s.heap := ⟨_, rfl⟩
  obtain ⟨locs, hLe⟩ : ∃ L : List Loc, L = [] := ⟨_, rfl⟩
  rw [← hHe] at hP ⊢
  rw [← hLe]
  have hS : va_S A s.heap H locs := by rw [hHe, hLe]; exact hS
  refine lv_iconst (v := 0) hx hb d_N_present_0 (by decide) ?_
  refine lv_istore_n (lv' := [(1, .int (0)), (0, .ref (h 0))]) hx hb d_N_present_1 rfl hl (by decide) rfl (fun ls hl => ?_)
  refine lv_iconst (v := 0) hx hb d_N_present_2 (by decide) ?_
  refine lv_istore_n (lv' := [(2, .int (0)), (1, .int (0)), (0, .ref (h 0))]) hx hb d_N_present_3 rfl hl (by decide) rfl (fun ls hl => ?_)
  exact kb_4 200 g (0) (0) H locs ls hP hD hS (lv_sub hl [2, 1, 0] rfl) hF

theorem d_N_tick_0 : decode b_N_tick 0 = .ok (.aload_n 0, 1) := by decide +kernel
theorem d_N_tick_1 : decode b_N_tick 1 = .ok (.iconst 0, 1) := by decide +kernel
theorem d_N_tick_2 : decode b_N_tick 2 = .ok (.putfield 52, 3) := by decide +kernel
theorem d_N_tick_5 : decode b_N_tick 5 = .ok (.iload_n 1, 1) := by decide +kernel
theorem d_N_tick_6 : decode b_N_tick 6 = .ok (.iconst 1, 1) := by decide +kernel
theorem d_N_tick_7 : decode b_N_tick 7 = .ok (.iconst 4, 1) := by decide +kernel
theorem d_N_tick_8 : decode b_N_tick 8 = .ok (.invokestatic 65, 3) := by decide +kernel
theorem d_N_tick_11 : decode b_N_tick 11 = .ok (.ifCond .ne 9, 3) := by decide +kernel
theorem d_N_tick_14 : decode b_N_tick 14 = .ok (.aload_n 0, 1) := by decide +kernel
theorem d_N_tick_15 : decode b_N_tick 15 = .ok (.iconst 1, 1) := by decide +kernel
theorem d_N_tick_16 : decode b_N_tick 16 = .ok (.invokevirtual 69, 3) := by decide +kernel
theorem d_N_tick_19 : decode b_N_tick 19 = .ok (.ireturn, 1) := by decide +kernel
theorem d_N_tick_20 : decode b_N_tick 20 = .ok (.iconst 0, 1) := by decide +kernel
theorem d_N_tick_21 : decode b_N_tick 21 = .ok (.istore_n 2, 1) := by decide +kernel
theorem d_N_tick_22 : decode b_N_tick 22 = .ok (.iload_n 2, 1) := by decide +kernel
theorem d_N_tick_23 : decode b_N_tick 23 = .ok (.iload_n 1, 1) := by decide +kernel
theorem d_N_tick_24 : decode b_N_tick 24 = .ok (.if_icmp .ge 50, 3) := by decide +kernel
theorem d_N_tick_27 : decode b_N_tick 27 = .ok (.aload_n 0, 1) := by decide +kernel
theorem d_N_tick_28 : decode b_N_tick 28 = .ok (.aload_n 0, 1) := by decide +kernel
theorem d_N_tick_29 : decode b_N_tick 29 = .ok (.getfield 146, 3) := by decide +kernel
theorem d_N_tick_32 : decode b_N_tick 32 = .ok (.lconst 1, 1) := by decide +kernel
theorem d_N_tick_33 : decode b_N_tick 33 = .ok (.ladd, 1) := by decide +kernel
theorem d_N_tick_34 : decode b_N_tick 34 = .ok (.invokestatic 117, 3) := by decide +kernel
theorem d_N_tick_37 : decode b_N_tick 37 = .ok (.putfield 146, 3) := by decide +kernel
theorem d_N_tick_40 : decode b_N_tick 40 = .ok (.iconst 0, 1) := by decide +kernel
theorem d_N_tick_41 : decode b_N_tick 41 = .ok (.istore_n 3, 1) := by decide +kernel
theorem d_N_tick_42 : decode b_N_tick 42 = .ok (.iload_n 3, 1) := by decide +kernel
theorem d_N_tick_43 : decode b_N_tick 43 = .ok (.bipush 12, 2) := by decide +kernel
theorem d_N_tick_45 : decode b_N_tick 45 = .ok (.if_icmp .ge 23, 3) := by decide +kernel
theorem d_N_tick_48 : decode b_N_tick 48 = .ok (.aload_n 0, 1) := by decide +kernel
theorem d_N_tick_49 : decode b_N_tick 49 = .ok (.getfield 13, 3) := by decide +kernel
theorem d_N_tick_52 : decode b_N_tick 52 = .ok (.iload_n 3, 1) := by decide +kernel
theorem d_N_tick_53 : decode b_N_tick 53 = .ok (.baload, 1) := by decide +kernel
theorem d_N_tick_54 : decode b_N_tick 54 = .ok (.ifCond .eq 8, 3) := by decide +kernel
theorem d_N_tick_57 : decode b_N_tick 57 = .ok (.aload_n 0, 1) := by decide +kernel
theorem d_N_tick_58 : decode b_N_tick 58 = .ok (.iload_n 3, 1) := by decide +kernel
theorem d_N_tick_59 : decode b_N_tick 59 = .ok (.invokevirtual 205, 3) := by decide +kernel
theorem d_N_tick_62 : decode b_N_tick 62 = .ok (.iinc 3 1, 3) := by decide +kernel
theorem d_N_tick_65 : decode b_N_tick 65 = .ok (.goto (-23), 3) := by decide +kernel
theorem d_N_tick_68 : decode b_N_tick 68 = .ok (.iinc 2 1, 3) := by decide +kernel
theorem d_N_tick_71 : decode b_N_tick 71 = .ok (.goto (-49), 3) := by decide +kernel
theorem d_N_tick_74 : decode b_N_tick 74 = .ok (.aload_n 0, 1) := by decide +kernel
theorem d_N_tick_75 : decode b_N_tick 75 = .ok (.invokevirtual 208, 3) := by decide +kernel
theorem d_N_tick_78 : decode b_N_tick 78 = .ok (.ireturn, 1) := by decide +kernel
def f_N_tick_62 (k22 : Sm → Int32 → Int32 → Option (Int32 × Sm)) (k42 : Sm → Int32 → Int32 → Int32 → Option (Int32 × Sm)) (g : Sm) (x1 : Int32) (x2 : Int32) (x3 : Int32) : Option (Int32 × Sm) := (k42 g (x1) (x2) (x3 + 1))
def f_N_tick_42 (k22 : Sm → Int32 → Int32 → Option (Int32 × Sm)) : Nat → Sm → Int32 → Int32 → Int32 → Option (Int32 × Sm)
  | 0, _, _, _, _ => none
  | n + 1, g, x1, x2, x3 => (if 12 ≤ x3 then (k22 g (x1) (x2 + 1)) else (qs_in (x3) 12 (if (g.1 2 x3.toNatClampNeg) = 0 then (f_N_tick_62 k22 (fun g x1 x2 x3 => f_N_tick_42 k22 n g x1 x2 x3) g (x1) (x2) (x3)) else (qs_bn (f_N_turn g (x3)) fun _ u15 => (f_N_tick_62 k22 (fun g x1 x2 x3 => f_N_tick_42 k22 n g x1 x2 x3) u15 (x1) (x2) (x3))))))
def f_N_tick_22  : Nat → Sm → Int32 → Int32 → Option (Int32 × Sm)
  | 0, _, _, _ => none
  | n + 1, g, x1, x2 => (if x1 ≤ x2 then (qs_bn (f_N_present g ) fun r7 u8 => (some (r7, u8))) else (qs_pb (f_N_clamp ((g.2 22 0) + (1 : Int64))) fun r9 => (qs_st (qm_l g 22 (r9)) fun u10 => (f_N_tick_42 (fun g x1 x2 => f_N_tick_22  n g x1 x2) 200 u10 (x1) (x2) (0)))))
def f_N_tick (g : Sm) (a1 : Int32) : Option (Int32 × Sm) := (qs_st (qm_i g 20 (0)) fun u1 => (qs_pb (f_N_in (a1) (1) (4)) fun r2 => (if r2 = 0 then (qs_bn (f_N_fail u1 (1)) fun r4 u5 => (some (r4, u5))) else (f_N_tick_22 200 u1 (a1) (0)))))
set_option maxHeartbeats 4000000 in
set_option maxRecDepth 100000 in
theorem c_N_tick (l : Launch) (dC : Nat → ClassId) (dI : Nat → Nat → Nat) (h : Nat → Nat) (c : Nat → ClassId) (sz : Nat) (g : Sm) (a1 : Int32) (r0 : Int32) (u0 : Sm) (hF : f_N_tick g a1 = some (r0, u0)) : Met l y_N_tick (qs_ws y_N_tick b_N_tick 4 (some .int)) ({ frames := 9, cells := 0, slots := 0, locals := 230 } : Room) (va_Pc ([.ref (h 0), .int a1] : List Value) (fun U => U.heap.size = sz ∧ va_P (dC, dI) vwCl (ms_W h c g) U.heap ∧ va_K (dC, dI) vwCl (ms_T c) U ∧ va_D (fun _ => True) (ms_W h c g) ∧ qs_N U)) (va_Qi (fun (r : Int32) (u : Sm) => r = r0 ∧ u = u0) (ms_at dC dI h c (va_A (ms_W h c g) sz)) (va_A (ms_W h c g) sz)) 0 0 (va_A (ms_W h c g) sz) := by
  refine Met.ofW (cc := b_N_tick) (maxL := 4) (ret := (some .int)) (by decide +kernel) rfl ?_
  intro p e s m args below meth cd s₁ B hml hv
  obtain ⟨rfl, hsz, hP, hK, hD0, hNs⟩ := hv
  have hx := B.exec
  have hb := B.bytes
  have hr := B.returns
  have hts := atoms_spec (ws := (qs_ws y_N_tick b_N_tick 4 (some .int))) B.pre
  have hg : ∀ w ∈ qs_gt, w.before _ s = true := fun w h => hts w (List.mem_cons_of_mem _ h)
  have hown : s.vm.findClass R_N = some m.cls := findClass_of_methodNamed B.named
  have hlocks := B.notSynchronized
  subst hsz
  have hD := hD0.self (sz := s.heap.size)
  generalize hAe : va_A (ms_W h c g) s.heap.size = A at hD ⊢
  have hA : ∀ q : Nat, s.heap.size ≤ q → A q := fun q h => by rw [← hAe]; exact Or.inr h
  have hS : va_S A s.heap s.heap [] := va_S.rf
  have kb_62 : ∀ (k22 : Sm → Int32 → Int32 → Option (Int32 × Sm)), (∀ (g : Sm) (x1 : Int32) (x2 : Int32) (H : Heap) (locs : List Loc) (ls : Array Slot), va_P (dC, dI) vwCl (ms_W h c g) H → va_D A (ms_W h c g) → va_S A s.heap H locs → lv_has ls 4 [(0, .ref (h 0)), (1, .int (x1)), (2, .int (x2))] → k22 g x1 x2 = some (r0, u0) → W p l e (headSpec (qs_ws y_N_tick b_N_tick 4 (some .int)) ({ frames := 9, cells := 0, slots := 0, locals := 230 } : Room)).room s m ([.ref (h 0), .int a1] : List Value).toArray below meth cd H locs 0 0 (MQ below (va_Qi (fun (r : Int32) (u : Sm) => r = r0 ∧ u = u0) (ms_at dC dI h c A) A) ([.ref (h 0), .int a1] : List Value).toArray s 0 0 A) (F0 m 22 ls [])) → ∀ (k42 : Sm → Int32 → Int32 → Int32 → Option (Int32 × Sm)), (∀ (g : Sm) (x1 : Int32) (x2 : Int32) (x3 : Int32) (H : Heap) (locs : List Loc) (ls : Array Slot), va_P (dC, dI) vwCl (ms_W h c g) H → va_D A (ms_W h c g) → va_S A s.heap H locs → lv_has ls 4 [(0, .ref (h 0)), (1, .int (x1)), (2, .int (x2)), (3, .int (x3))] → k42 g x1 x2 x3 = some (r0, u0) → W p l e (headSpec (qs_ws y_N_tick b_N_tick 4 (some .int)) ({ frames := 9, cells := 0, slots := 0, locals := 230 } : Room)).room s m ([.ref (h 0), .int a1] : List Value).toArray below meth cd H locs 0 0 (MQ below (va_Qi (fun (r : Int32) (u : Sm) => r = r0 ∧ u = u0) (ms_at dC dI h c A) A) ([.ref (h 0), .int a1] : List Value).toArray s 0 0 A) (F0 m 42 ls [])) → ∀ (g : Sm) (x1 : Int32) (x2 : Int32) (x3 : Int32) (H : Heap) (locs : List Loc) (ls : Array Slot), va_P (dC, dI) vwCl (ms_W h c g) H → va_D A (ms_W h c g) → va_S A s.heap H locs → lv_has ls 4 [(0, .ref (h 0)), (1, .int (x1)), (2, .int (x2)), (3, .int (x3))] → f_N_tick_62 k22 k42  g x1 x2 x3 = some (r0, u0) → W p l e (headSpec (qs_ws y_N_tick b_N_tick 4 (some .int)) ({ frames := 9, cells := 0, slots := 0, locals := 230 } : Room)).room s m ([.ref (h 0), .int a1] : List Value).toArray below meth cd H locs 0 0 (MQ below (va_Qi (fun (r : Int32) (u : Sm) => r = r0 ∧ u = u0) (ms_at dC dI h c A) A) ([.ref (h 0), .int a1] : List Value).toArray s 0 0 A) (F0 m 62 ls []) := by
    intro k22 hk22
    intro k42 hk42
    intro g x1 x2 x3 H locs ls hP hD hS hl hF
    unfold f_N_tick_62 at hF
    refine lv_iinc (v := x3 + 1) (lv' := [(3, .int (x3 + 1)), (0, .ref (h 0)), (1, .int (x1)), (2, .int (x2))]) hx hb d_N_tick_62 hl (k := 3) rfl (by rfl) (by decide) rfl (fun ls hl => ?_)
    refine lv_goto (tgt := 42) hx hb d_N_tick_65 (by decide) ?_
    exact hk42 g (x1) (x2) (x3 + 1) H locs ls hP hD hS (lv_sub hl [1, 2, 3, 0] rfl) hF
  have kb_42 : ∀ (k22 : Sm → Int32 → Int32 → Option (Int32 × Sm)), (∀ (g : Sm) (x1 : Int32) (x2 : Int32) (H : Heap) (locs : List Loc) (ls : Array Slot), va_P (dC, dI) vwCl (ms_W h c g) H → va_D A (ms_W h c g) → va_S A s.heap H locs → lv_has ls 4 [(0, .ref (h 0)), (1, .int (x1)), (2, .int (x2))] → k22 g x1 x2 = some (r0, u0) → W p l e (headSpec (qs_ws y_N_tick b_N_tick 4 (some .int)) ({ frames := 9, cells := 0, slots := 0, locals := 230 } : Room)).room s m ([.ref (h 0), .int a1] : List Value).toArray below meth cd H locs 0 0 (MQ below (va_Qi (fun (r : Int32) (u : Sm) => r = r0 ∧ u = u0) (ms_at dC dI h c A) A) ([.ref (h 0), .int a1] : List Value).toArray s 0 0 A) (F0 m 22 ls [])) → ∀ n : Nat, ∀ (g : Sm) (x1 : Int32) (x2 : Int32) (x3 : Int32) (H : Heap) (locs : List Loc) (ls : Array Slot), va_P (dC, dI) vwCl (ms_W h c g) H → va_D A (ms_W h c g) → va_S A s.heap H locs → lv_has ls 4 [(0, .ref (h 0)), (1, .int (x1)), (2, .int (x2)), (3, .int (x3))] → f_N_tick_42 k22 n g x1 x2 x3 = some (r0, u0) → W p l e (headSpec (qs_ws y_N_tick b_N_tick 4 (some .int)) ({ frames := 9, cells := 0, slots := 0, locals := 230 } : Room)).room s m ([.ref (h 0), .int a1] : List Value).toArray below meth cd H locs 0 0 (MQ below (va_Qi (fun (r : Int32) (u : Sm) => r = r0 ∧ u = u0) (ms_at dC dI h c A) A) ([.ref (h 0), .int a1] : List Value).toArray s 0 0 A) (F0 m 42 ls []) := by
    intro k22 hk22
    intro n
    induction n with
    | zero =>
      intro g x1 x2 x3 H locs ls hP hD hS hl hF
      exact nomatch (show (none : Option (Int32 × Sm)) = some _ from hF)
    | succ n ih =>
      intro g x1 x2 x3 H locs ls hP hD hS hl hF
      rw [f_N_tick_42] at hF
      refine lv_iload_n hx hb d_N_tick_42 rfl (lv_at hl 3 rfl) ?_
      refine lv_bipush (v := 12) hx hb d_N_tick_43 (by decide) ?_
      refine lv_icmp_ge (tgt := 68) hx hb d_N_tick_45 (by decide) (fun c11 => ?_) (fun c11 => ?_)
      · have hF := qs_pos c11 hF
        refine lv_iinc (v := x2 + 1) (lv' := [(2, .int (x2 + 1)), (0, .ref (h 0)), (1, .int (x1)), (3, .int (x3))]) hx hb d_N_tick_68 hl (k := 2) rfl (by rfl) (by decide) rfl (fun ls hl => ?_)
        refine lv_goto (tgt := 22) hx hb d_N_tick_71 (by decide) ?_
        exact hk22 g (x1) (x2 + 1) H locs ls hP hD hS (lv_sub hl [1, 2, 0] rfl) hF
      · have hF := qs_neg c11 hF
        refine lv_aload_n hx hb d_N_tick_48 rfl (lv_at hl 0 rfl) ?_
        refine va_get (D := (dC, dI)) (ci := 7) (v := .ref (h 2)) (C := R_N) (T := T_N) (N := 22) hx hb hg in_N hown hK hP 0 rfl rfl 2 (by decide) (hg _ t_620) (fun _ h9 => h9) rfl d_N_tick_49 ?_
        refine lv_iload_n hx hb d_N_tick_52 rfl (lv_at hl 3 rfl) ?_
        obtain ⟨c12, hF⟩ := qs_in_some hF
        refine va_zald hx hb hK hP 2 1 rfl rfl c12 d_N_tick_53 ?_
        refine lv_if_eq (tgt := 62) hx hb d_N_tick_54 (by decide) (fun c13 => ?_) (fun c13 => ?_)
        · have hF := qs_pos c13 hF
          exact kb_62 _ hk22 _ ih g (x1) (x2) (x3) H locs ls hP hD hS (lv_sub hl [0, 1, 2, 3] rfl) hF
        · have hF := qs_neg c13 hF
          refine lv_aload_n hx hb d_N_tick_57 rfl (lv_at hl 0 rfl) ?_
          refine lv_iload_n hx hb d_N_tick_58 rfl (lv_at hl 3 rfl) ?_
          obtain ⟨r14, u15, hX, hF⟩ := qs_bn_some hF
          refine qs_cv (Wd := ms_W h c) (isC := [0, 1, 2, 3, 4, 5, 6, 7, 8, 9, 10, 11, 12]) (va_runV (own := "QuakeServerModel") (C := "QuakeServerModel") (As := [.int (x3)]) (rest := []) ⟨hx, hb, hml, hown, hg⟩ (c_N_turn l dC dI h c H.size g (x3)  u15 hX) (cwV 1 hg (qs_gV t_803 t_805 tp_27 t_8 t_806) rfl rfl rfl (by decide +kernel) ⟨Nat.le_of_ble_eq_true rfl, Nat.le_of_ble_eq_true rfl⟩) ⟨qs_blind, va_recv hK hP (ci := 7) (q0 := 0) rfl rfl, fun U hU hW => ⟨rfl, by rw [hU], by rw [hU]; exact hP, va_K.moved hW.alike hK, hD.weaken (fun _ _ _ _ => trivial), hNs.warm hW⟩⟩ rfl rfl hl.1 rfl (lv_room (Nat.le_of_ble_eq_true rfl)) d_N_tick_59 ⟨Nat.le_of_ble_eq_true rfl, Nat.le_of_ble_eq_true rfl⟩) rfl hP hD hS hA (fun H locs hP hD hS => ?_)
          exact kb_62 _ hk22 _ ih u15 (x1) (x2) (x3) H locs ls hP hD hS (lv_sub hl [0, 1, 2, 3] rfl) hF
  have kb_22 : ∀ n : Nat, ∀ (g : Sm) (x1 : Int32) (x2 : Int32) (H : Heap) (locs : List Loc) (ls : Array Slot), va_P (dC, dI) vwCl (ms_W h c g) H → va_D A (ms_W h c g) → va_S A s.heap H locs → lv_has ls 4 [(0, .ref (h 0)), (1, .int (x1)), (2, .int (x2))] → f_N_tick_22 n g x1 x2 = some (r0, u0) → W p l e (headSpec (qs_ws y_N_tick b_N_tick 4 (some .int)) ({ frames := 9, cells := 0, slots := 0, locals := 230 } : Room)).room s m ([.ref (h 0), .int a1] : List Value).toArray below meth cd H locs 0 0 (MQ below (va_Qi (fun (r : Int32) (u : Sm) => r = r0 ∧ u = u0) (ms_at dC dI h c A) A) ([.ref (h 0), .int a1] : List Value).toArray s 0 0 A) (F0 m 22 ls []) := by
    intro n
    induction n with
    | zero =>
      intro g x1 x2 H locs ls hP hD hS hl hF
      exact nomatch (show (none : Option (Int32 × Sm)) = some _ from hF)
    | succ n ih =>
      intro g x1 x2 H locs ls hP hD hS hl hF
      rw [f_N_tick_22] at hF
      refine lv_iload_n hx hb d_N_tick_22 rfl (lv_at hl 2 rfl) ?_
      refine lv_iload_n hx hb d_N_tick_23 rfl (lv_at hl 1 rfl) ?_
      refine lv_icmp_ge (tgt := 74) hx hb d_N_tick_24 (by decide) (fun c6 => ?_) (fun c6 => ?_)
      · have hF := qs_pos c6 hF
        refine lv_aload_n hx hb d_N_tick_74 rfl (lv_at hl 0 rfl) ?_
        obtain ⟨r7, u8, hX, hF⟩ := qs_bn_some hF
        refine qs_ci (Wd := ms_W h c) (isC := [0, 1, 2, 3, 4, 5, 6, 7, 8, 9, 10, 11, 12]) (va_runV (own := "QuakeServerModel") (C := "QuakeServerModel") (As := []) (rest := []) ⟨hx, hb, hml, hown, hg⟩ (c_N_present l dC dI h c H.size g  r7 u8 hX) (cwV 0 hg (qs_gV t_842 t_844 tp_35 t_8 t_845) rfl rfl rfl (by decide +kernel) ⟨Nat.le_of_ble_eq_true rfl, Nat.le_of_ble_eq_true rfl⟩) ⟨qs_blind, va_recv hK hP (ci := 7) (q0 := 0) rfl rfl, fun U hU hW => ⟨rfl, by rw [hU], by rw [hU]; exact hP, va_K.moved hW.alike hK, hD.weaken (fun _ _ _ _ => trivial), hNs.warm hW⟩⟩ rfl rfl hl.1 rfl (lv_room (Nat.le_of_ble_eq_true rfl)) d_N_tick_75 ⟨Nat.le_of_ble_eq_true rfl, Nat.le_of_ble_eq_true rfl⟩) rfl hP hD hS hA (fun H locs hP hD hS => ?_)
        obtain ⟨h8, h9⟩ := qs_ret hF
        exact W.iret (v := r7) hx hb hr (fun t ht hW => ⟨⟨r7, u8, rfl, ⟨h8, h9⟩, by rw [ht]; exact hP, va_K.moved hW.alike hK, hD⟩, hS.F ht⟩) hS.2.2 d_N_tick_78
      · have hF := qs_neg c6 hF
        refine lv_aload_n hx hb d_N_tick_27 rfl (lv_at hl 0 rfl) ?_
        refine lv_aload_n hx hb d_N_tick_28 rfl (lv_at hl 0 rfl) ?_
        refine va_get (D := (dC, dI)) (ci := 7) (v := .long (g.2 22 0)) (C := R_N) (T := T_N) (N := 22) hx hb hg in_N hown hK hP 0 rfl rfl 13 (by decide) (hg _ t_631) (fun _ h9 => h9) rfl d_N_tick_29 ?_
        refine lv_lconst (v := 1) hx hb d_N_tick_32 (by decide) ?_
        refine lv_ladd hx hb d_N_tick_33 ?_
        obtain ⟨r9, hX, hF⟩ := qs_pb_some hF
        refine qs_psl (va_runS (own := "QuakeServerModel") (As := [.long ((g.2 22 0) + (1 : Int64))]) (rest := [.ref (h 0)]) ⟨hx, hb, hml, hown, hg⟩ (c_N_clamp l H.size ((g.2 22 0) + (1 : Int64)) r9 hX) (va_cwS 1 hg (qs_gS t_783 t_784 t_8 t_785) rfl rfl rfl (by decide +kernel) ⟨Nat.le_of_ble_eq_true rfl, Nat.le_of_ble_eq_true rfl⟩) ⟨qs_blind0, fun U hU hW => ⟨rfl, by rw [hU], hNs.warm hW⟩⟩ rfl rfl hl.1 rfl (lv_room (Nat.le_of_ble_eq_true rfl)) d_N_tick_34 ⟨Nat.le_of_ble_eq_true rfl, Nat.le_of_ble_eq_true rfl⟩) hP hD hS hA (fun H locs hP hS => ?_)
        refine va_put (D := (dC, dI)) (ci := 7) (v := .long (r9)) (ty := .long) (C := R_N) (T := T_N) (N := 22) hx hb hg in_N ty_N ty_N_ok nm_N hown hK hP hD hS 0 rfl rfl 13 (by decide) (hg _ t_631) (fun _ h9 => h9) rfl (by decide +kernel) rfl rfl (Nat.le_of_ble_eq_true rfl) d_N_tick_37 (fun H locs hP hD hS => ?_)
        obtain ⟨u10, hu10, hF⟩ := qs_st_some hF
        have hP : va_P (dC, dI) vwCl (ms_W h c u10) H := by rw [hu10]; exact hP
        have hD : va_D A (ms_W h c u10) := by rw [hu10]; exact hD
        clear hu10
        refine lv_iconst (v := 0) hx hb d_N_tick_40 (by decide) ?_
        refine lv_istore_n (lv' := [(3, .int (0)), (0, .ref (h 0)), (1, .int (x1)), (2, .int (x2))]) hx hb d_N_tick_41 rfl hl (by decide) rfl (fun ls hl => ?_)
        exact kb_42 _ ih 200 u10 (x1) (x2) (0) H locs ls hP hD hS (lv_sub hl [1, 2, 3, 0] rfl) hF
  have hl := lv_entry ([.ref (h 0), .int a1] : List Value) (n := 4) (Nat.le_of_ble_eq_true rfl)
  rw [lg_entry_eq]
  generalize (lg_sl ([.ref (h 0), .int a1] : List Value) ++ List.replicate (4 - (lg_sl ([.ref (h 0), .int a1] : List Value)).length) Slot.unset).toArray = ls at hl ⊢
  have hl : lv_has ls 4 [(0, .ref (h 0)), (1, .int (a1))] := hl
  unfold f_N_tick at hF
  obtain ⟨H, hHe⟩ : ∃ H, H = s.heap := ⟨_, rfl⟩
  obtain ⟨locs, hLe⟩ : ∃ L : List Loc, L = [] := ⟨_, rfl⟩
  rw [← hHe] at hP ⊢
  rw [← hLe]
  have hS : va_S A s.heap H locs := by rw [hHe, hLe]; exact hS
  refine lv_aload_n hx hb d_N_tick_0 rfl (lv_at hl 0 rfl) ?_
  refine lv_iconst (v := 0) hx hb d_N_tick_1 (by decide) ?_
  refine va_put (D := (dC, dI)) (ci := 7) (v := .int (0)) (ty := .int) (C := R_N) (T := T_N) (N := 22) hx hb hg in_N ty_N ty_N_ok nm_N hown hK hP hD hS 0 rfl rfl 0 (by decide) (hg _ t_618) (fun _ h9 => h9) rfl (by decide +kernel) rfl rfl (Nat.le_of_ble_eq_true rfl) d_N_tick_2 (fun H locs hP hD hS => ?_)
  obtain ⟨u1, hu1, hF⟩ := qs_st_some hF
  have hP : va_P (dC, dI) vwCl (ms_W h c u1) H := by rw [hu1]; exact hP
  have hD : va_D A (ms_W h c u1) := by rw [hu1]; exact hD
  clear hu1
  refine lv_iload_n hx hb d_N_tick_5 rfl (lv_at hl 1 rfl) ?_
  refine lv_iconst (v := 1) hx hb d_N_tick_6 (by decide) ?_
  refine lv_iconst (v := 4) hx hb d_N_tick_7 (by decide) ?_
  obtain ⟨r2, hX, hF⟩ := qs_pb_some hF
  refine qs_psi (va_runS (own := "QuakeServerModel") (As := [.int (a1), .int (1), .int (4)]) (rest := []) ⟨hx, hb, hml, hown, hg⟩ (c_N_in l H.size (a1) (1) (4) r2 hX) (va_cwS 3 hg (qs_gS t_694 t_695 t_8 t_696) rfl rfl rfl (by decide +kernel) ⟨Nat.le_of_ble_eq_true rfl, Nat.le_of_ble_eq_true rfl⟩) ⟨qs_blind0, fun U hU hW => ⟨rfl, by rw [hU], hNs.warm hW⟩⟩ rfl rfl hl.1 rfl (lv_room (Nat.le_of_ble_eq_true rfl)) d_N_tick_8 ⟨Nat.le_of_ble_eq_true rfl, Nat.le_of_ble_eq_true rfl⟩) hP hD hS hA (fun H locs hP hS => ?_)
  refine lv_if_ne (tgt := 20) hx hb d_N_tick_11 (by decide) (fun c3 => ?_) (fun c3 => ?_)
  · have hF := qs_neg c3 hF
    refine lv_iconst (v := 0) hx hb d_N_tick_20 (by decide) ?_
    refine lv_istore_n (lv' := [(2, .int (0)), (0, .ref (h 0)), (1, .int (a1))]) hx hb d_N_tick_21 rfl hl (by decide) rfl (fun ls hl => ?_)
    exact kb_22 200 u1 (a1) (0) H locs ls hP hD hS (lv_sub hl [1, 2, 0] rfl) hF
  · have hF := qs_pos c3 hF
    refine lv_aload_n hx hb d_N_tick_14 rfl (lv_at hl 0 rfl) ?_
    refine lv_iconst (v := 1) hx hb d_N_tick_15 (by decide) ?_
    obtain ⟨r4, u5, hX, hF⟩ := qs_bn_some hF
    refine qs_ci (Wd := ms_W h c) (isC := [0, 1, 2, 3, 4, 5, 6, 7, 8, 9, 10, 11, 12]) (va_runV (own := "QuakeServerModel") (C := "QuakeServerModel") (As := [.int (1)]) (rest := []) ⟨hx, hb, hml, hown, hg⟩ (c_N_fail l dC dI h c H.size u1 (1) r4 u5 hX) (cwV 1 hg (qs_gV t_697 t_699 tp_17 t_8 t_700) rfl rfl rfl (by decide +kernel) ⟨Nat.le_of_ble_eq_true rfl, Nat.le_of_ble_eq_true rfl⟩) ⟨qs_blind, va_recv hK hP (ci := 7) (q0 := 0) rfl rfl, fun U hU hW => ⟨rfl, by rw [hU], by rw [hU]; exact hP, va_K.moved hW.alike hK, hD.weaken (fun _ _ _ _ => trivial), hNs.warm hW⟩⟩ rfl rfl hl.1 rfl (lv_room (Nat.le_of_ble_eq_true rfl)) d_N_tick_16 ⟨Nat.le_of_ble_eq_true rfl, Nat.le_of_ble_eq_true rfl⟩) rfl hP hD hS hA (fun H locs hP hD hS => ?_)
    obtain ⟨h8, h9⟩ := qs_ret hF
    exact W.iret (v := r4) hx hb hr (fun t ht hW => ⟨⟨r4, u5, rfl, ⟨h8, h9⟩, by rw [ht]; exact hP, va_K.moved hW.alike hK, hD⟩, hS.F ht⟩) hS.2.2 d_N_tick_19
