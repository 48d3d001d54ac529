theorem d_Q_wall_0 : decode b_Q_wall 0 = .ok (.iload_n 1, 1) := by decide +kernel
theorem d_Q_wall_1 : decode b_Q_wall 1 = .ok (.invokestatic 57, 3) := by decide +kernel
theorem d_Q_wall_4 : decode b_Q_wall 4 = .ok (.ifCond .eq 25, 3) := by decide +kernel
theorem d_Q_wall_7 : decode b_Q_wall 7 = .ok (.iload_n 2, 1) := by decide +kernel
theorem d_Q_wall_8 : decode b_Q_wall 8 = .ok (.invokestatic 57, 3) := by decide +kernel
theorem d_Q_wall_11 : decode b_Q_wall 11 = .ok (.ifCond .eq 18, 3) := by decide +kernel
theorem d_Q_wall_14 : decode b_Q_wall 14 = .ok (.iload_n 3, 1) := by decide +kernel
theorem d_Q_wall_15 : decode b_Q_wall 15 = .ok (.invokestatic 57, 3) := by decide +kernel
theorem d_Q_wall_18 : decode b_Q_wall 18 = .ok (.ifCond .eq 11, 3) := by decide +kernel
theorem d_Q_wall_21 : decode b_Q_wall 21 = .ok (.iload 4, 2) := by decide +kernel
theorem d_Q_wall_23 : decode b_Q_wall 23 = .ok (.invokestatic 57, 3) := by decide +kernel
theorem d_Q_wall_26 : decode b_Q_wall 26 = .ok (.ifCond .ne 13, 3) := by decide +kernel
theorem d_Q_wall_29 : decode b_Q_wall 29 = .ok (.new 61, 3) := by decide +kernel
theorem d_Q_wall_32 : decode b_Q_wall 32 = .ok (.dup, 1) := by decide +kernel
theorem d_Q_wall_33 : decode b_Q_wall 33 = .ok (.ldc 63, 2) := by decide +kernel
theorem d_Q_wall_35 : decode b_Q_wall 35 = .ok (.invokespecial 65, 3) := by decide +kernel
theorem d_Q_wall_38 : decode b_Q_wall 38 = .ok (.athrow, 1) := by decide +kernel
theorem d_Q_wall_39 : decode b_Q_wall 39 = .ok (.iload_n 1, 1) := by decide +kernel
theorem d_Q_wall_40 : decode b_Q_wall 40 = .ok (.iload_n 3, 1) := by decide +kernel
theorem d_Q_wall_41 : decode b_Q_wall 41 = .ok (.if_icmp .ge 9, 3) := by decide +kernel
theorem d_Q_wall_44 : decode b_Q_wall 44 = .ok (.iload_n 2, 1) := by decide +kernel
theorem d_Q_wall_45 : decode b_Q_wall 45 = .ok (.iload 4, 2) := by decide +kernel
theorem d_Q_wall_47 : decode b_Q_wall 47 = .ok (.if_icmp .lt 13, 3) := by decide +kernel
theorem d_Q_wall_50 : decode b_Q_wall 50 = .ok (.new 61, 3) := by decide +kernel
theorem d_Q_wall_53 : decode b_Q_wall 53 = .ok (.dup, 1) := by decide +kernel
theorem d_Q_wall_54 : decode b_Q_wall 54 = .ok (.ldc 68, 2) := by decide +kernel
theorem d_Q_wall_56 : decode b_Q_wall 56 = .ok (.invokespecial 65, 3) := by decide +kernel
theorem d_Q_wall_59 : decode b_Q_wall 59 = .ok (.athrow, 1) := by decide +kernel
theorem d_Q_wall_60 : decode b_Q_wall 60 = .ok (.aload_n 0, 1) := by decide +kernel
theorem d_Q_wall_61 : decode b_Q_wall 61 = .ok (.getfield 19, 3) := by decide +kernel
theorem d_Q_wall_64 : decode b_Q_wall 64 = .ok (.getfield 70, 3) := by decide +kernel
theorem d_Q_wall_67 : decode b_Q_wall 67 = .ok (.bipush 6, 2) := by decide +kernel
theorem d_Q_wall_69 : decode b_Q_wall 69 = .ok (.if_icmp .ne 13, 3) := by decide +kernel
theorem d_Q_wall_72 : decode b_Q_wall 72 = .ok (.new 74, 3) := by decide +kernel
theorem d_Q_wall_75 : decode b_Q_wall 75 = .ok (.dup, 1) := by decide +kernel
theorem d_Q_wall_76 : decode b_Q_wall 76 = .ok (.ldc 76, 2) := by decide +kernel
theorem d_Q_wall_78 : decode b_Q_wall 78 = .ok (.invokespecial 78, 3) := by decide +kernel
theorem d_Q_wall_81 : decode b_Q_wall 81 = .ok (.athrow, 1) := by decide +kernel
theorem d_Q_wall_82 : decode b_Q_wall 82 = .ok (.aload_n 0, 1) := by decide +kernel
theorem d_Q_wall_83 : decode b_Q_wall 83 = .ok (.getfield 19, 3) := by decide +kernel
theorem d_Q_wall_86 : decode b_Q_wall 86 = .ok (.iload_n 1, 1) := by decide +kernel
theorem d_Q_wall_87 : decode b_Q_wall 87 = .ok (.iload_n 2, 1) := by decide +kernel
theorem d_Q_wall_88 : decode b_Q_wall 88 = .ok (.iload_n 3, 1) := by decide +kernel
theorem d_Q_wall_89 : decode b_Q_wall 89 = .ok (.iload 4, 2) := by decide +kernel
theorem d_Q_wall_91 : decode b_Q_wall 91 = .ok (.invokevirtual 79, 3) := by decide +kernel
theorem d_Q_wall_94 : decode b_Q_wall 94 = .ok (.ireturn, 1) := by decide +kernel
def f_Q_wall (g : Sg) (a1 : Int32) (a2 : Int32) (a3 : Int32) (a4 : Int32) : Option ((String × Sg) ⊕ (Int32 × Sg)) := (qs_pb (f_Q_isInWorld (a1)) fun r1 => (if r1 = 0 then (some (.inl ("java/lang/IllegalArgumentException", g))) else (qs_pb (f_Q_isInWorld (a2)) fun r3 => (if r3 = 0 then (some (.inl ("java/lang/IllegalArgumentException", g))) else (qs_pb (f_Q_isInWorld (a3)) fun r5 => (if r5 = 0 then (some (.inl ("java/lang/IllegalArgumentException", g))) else (qs_pb (f_Q_isInWorld (a4)) fun r7 => (if r7 = 0 then (some (.inl ("java/lang/IllegalArgumentException", g))) else (if a3 ≤ a1 then (some (.inl ("java/lang/IllegalArgumentException", g))) else (if a2 < a4 then (if (g 20 0) = 6 then (some (.inl ("java/lang/IllegalStateException", g))) else (qs_bn (f_W_add g (a1) (a2) (a3) (a4)) fun r12 u13 => (some (.inr (r12, u13))))) else (some (.inl ("java/lang/IllegalArgumentException", g)))))))))))))
set_option maxHeartbeats 4000000 in
set_option maxRecDepth 100000 in
theorem c_Q_wall (l : Launch) (hl9 : l.stackTraces = false) (dC : Nat → ClassId) (dI : Nat → Nat → Nat) (h : Nat → Nat) (c : Nat → ClassId) (sz : Nat) (sa63 : Nat) (sa68 : Nat) (sa76 : Nat) (g : Sg) (a1 : Int32) (a2 : Int32) (a3 : Int32) (a4 : Int32) (r0 : ((String × Sg) ⊕ (Int32 × Sg))) (hF : f_Q_wall g a1 a2 a3 a4 = some r0) : vx_Met l y_Q_wall (qs_ws y_Q_wall b_Q_wall 5 (some .int)) ({ frames := 6, cells := 1, slots := 6, locals := 82 } : Room) (va_Pc ([.ref (h 0), .int a1, .int a2, .int a3, .int a4] : List Value) (fun U => U.heap.size = sz ∧ va_P (dC, dI) vwCl (qs_W h c g) U.heap ∧ va_K (dC, dI) vwCl (qs_T c) U ∧ va_D (fun _ => True) (qs_W h c g) ∧ qs_N U ∧ vx_Zq Bundle.tN "UNASSIGNED_STACK" Bundle.steD (va_A (qs_W h c g) sz) U U.heap ∧ vx_Zq Bundle.tN "SUPPRESSED_SENTINEL" Bundle.listD (va_A (qs_W h c g) sz) U U.heap ∧ vk_R R_Q 63 "a wall\'s side is not -1024 .. 1024" sa63 U ∧ vk_R R_Q 68 "a wall ends where it begins, or before" sa68 U ∧ vk_R R_Q 76 "all walls are there" sa76 U)) (va_Qi (fun (r : Int32) (u : Sg) => r0 = .inr (r, u)) (qs_at dC dI h c (va_A (qs_W h c g) sz)) (va_A (qs_W h c g) sz)) (vx_X (fun (_ : Sg) => True) (fun E u t => (r0 = .inl (E, u) ∧ E ∈ (["java/lang/IllegalArgumentException", "java/lang/IllegalStateException"] : List String)) ∧ qs_at dC dI h c (va_A (qs_W h c g) sz) u t) (va_A (qs_W h c g) sz)) 1 6 (va_A (qs_W h c g) sz) := by
  refine vx_ofW (cc := b_Q_wall) (maxL := 5) (ret := (some .int)) (by decide +kernel) rfl ?_
  intro p e s m args below meth cd s₁ B hml ht hv
  obtain ⟨rfl, hsz, hP, hK, hD0, hNs, hU, hN, hs63, hs68, hs76⟩ := hv
  have hx := B.exec
  have hb := B.bytes
  have hr := B.returns
  have hts := atoms_spec (ws := (qs_ws y_Q_wall b_Q_wall 5 (some .int))) B.pre
  have hg : ∀ w ∈ qs_gt, w.before _ s = true := fun w h => hts w (List.mem_cons_of_mem _ h)
  have hown : s.vm.findClass R_Q = some m.cls := findClass_of_methodNamed B.named
  have hlocks := B.notSynchronized
  subst hsz
  have hD := hD0.self (sz := s.heap.size)
  generalize hAe : va_A (qs_W h c g) s.heap.size = A at hD hU hN ⊢
  have hA : ∀ q : Nat, s.heap.size ≤ q → A q := fun q h => by rw [← hAe]; exact Or.inr h
  have hS : va_S A s.heap s.heap [] := va_S.rf
  have hl := lv_entry ([.ref (h 0), .int a1, .int a2, .int a3, .int a4] : List Value) (n := 5) (Nat.le_of_ble_eq_true rfl)
  rw [lg_entry_eq]
  generalize (lg_sl ([.ref (h 0), .int a1, .int a2, .int a3, .int a4] : List Value) ++ List.replicate (5 - (lg_sl ([.ref (h 0), .int a1, .int a2, .int a3, .int a4] : List Value)).length) Slot.unset).toArray = ls at hl ⊢
  have hl : lv_has ls 5 [(0, .ref (h 0)), (1, .int (a1)), (2, .int (a2)), (3, .int (a3)), (4, .int (a4))] := hl
  unfold f_Q_wall at hF
  obtain ⟨H, hHe⟩ : ∃ H, H = s.heap := ⟨_, rfl⟩
  obtain ⟨locs, hLe⟩ : ∃ L : List Loc, L = [] := ⟨_, rfl⟩
  rw [← hHe] at hP ⊢
  rw [← hLe]
  have hS : va_S A s.heap H locs := by rw [hHe, hLe]; exact hS
  refine lv_iload_n hx hb d_Q_wall_0 rfl (lv_at hl 1 rfl) ?_
  obtain ⟨r1, hX, hF⟩ := qs_pb_some hF
  refine qs_psi (va_runS (own := "QuakeServer") (As := [.int (a1)]) (rest := []) ⟨hx, hb, hml, hown, hg⟩ (c_Q_isInWorld l H.size (a1) r1 hX) (va_cwS 1 hg (qs_gS t_212 t_213 t_1 t_214) rfl rfl rfl (by decide +kernel) ⟨Nat.le_of_ble_eq_true rfl, Nat.le_of_ble_eq_true rfl⟩) ⟨qs_blind0, fun U hU hW => ⟨rfl, by rw [hU], hNs.warm hW⟩⟩ rfl rfl hl.1 rfl (lv_room (Nat.le_of_ble_eq_true rfl)) d_Q_wall_1 ⟨Nat.le_of_ble_eq_true rfl, Nat.le_of_ble_eq_true rfl⟩) hP hD hS hA (fun H locs hP hS => ?_)
  refine lv_if_eq (tgt := 29) hx hb d_Q_wall_4 (by decide) (fun c2 => ?_) (fun c2 => ?_)
  · have hF := qs_pos c2 hF
    have h9 := Option.some.inj hF
    exact vx_throwS (text := "a wall\'s side is not -1024 .. 1024") (names := ["java/lang/RuntimeException", "java/lang/Exception"]) hx hb hl9 hown (by decide +kernel) (by decide +kernel) (hg _ t_215) (hg _ t_12) hs63 (ha_Q_65 hg hNs) hd_Q_65 hU hN hS (hl.1.trans hml.symm) d_Q_wall_29 d_Q_wall_32 d_Q_wall_33 d_Q_wall_35 d_Q_wall_38 (fun x h => (ht x h).elim) (Nat.le_of_ble_eq_true rfl) (Nat.le_of_ble_eq_true rfl) (Nat.le_of_ble_eq_true rfl) (Nat.le_of_ble_eq_true rfl) hlocks (fun t hvm hz hk => ⟨g, trivial, ⟨⟨h9.symm, by decide⟩, hP.kept (fun k q hq => hk q.1 (hP k q hq).lt), va_K.moved hvm hK, hD⟩, qs_F hS hz hk⟩) hS.2.2 (Nat.le_refl _) (Nat.le_refl _)
  · have hF := qs_neg c2 hF
    refine lv_iload_n hx hb d_Q_wall_7 rfl (lv_at hl 2 rfl) ?_
    obtain ⟨r3, hX, hF⟩ := qs_pb_some hF
    refine qs_psi (va_runS (own := "QuakeServer") (As := [.int (a2)]) (rest := []) ⟨hx, hb, hml, hown, hg⟩ (c_Q_isInWorld l H.size (a2) r3 hX) (va_cwS 1 hg (qs_gS t_212 t_213 t_1 t_214) rfl rfl rfl (by decide +kernel) ⟨Nat.le_of_ble_eq_true rfl, Nat.le_of_ble_eq_true rfl⟩) ⟨qs_blind0, fun U hU hW => ⟨rfl, by rw [hU], hNs.warm hW⟩⟩ rfl rfl hl.1 rfl (lv_room (Nat.le_of_ble_eq_true rfl)) d_Q_wall_8 ⟨Nat.le_of_ble_eq_true rfl, Nat.le_of_ble_eq_true rfl⟩) hP hD hS hA (fun H locs hP hS => ?_)
    refine lv_if_eq (tgt := 29) hx hb d_Q_wall_11 (by decide) (fun c4 => ?_) (fun c4 => ?_)
    · have hF := qs_pos c4 hF
      have h9 := Option.some.inj hF
      exact vx_throwS (text := "a wall\'s side is not -1024 .. 1024") (names := ["java/lang/RuntimeException", "java/lang/Exception"]) hx hb hl9 hown (by decide +kernel) (by decide +kernel) (hg _ t_215) (hg _ t_12) hs63 (ha_Q_65 hg hNs) hd_Q_65 hU hN hS (hl.1.trans hml.symm) d_Q_wall_29 d_Q_wall_32 d_Q_wall_33 d_Q_wall_35 d_Q_wall_38 (fun x h => (ht x h).elim) (Nat.le_of_ble_eq_true rfl) (Nat.le_of_ble_eq_true rfl) (Nat.le_of_ble_eq_true rfl) (Nat.le_of_ble_eq_true rfl) hlocks (fun t hvm hz hk => ⟨g, trivial, ⟨⟨h9.symm, by decide⟩, hP.kept (fun k q hq => hk q.1 (hP k q hq).lt), va_K.moved hvm hK, hD⟩, qs_F hS hz hk⟩) hS.2.2 (Nat.le_refl _) (Nat.le_refl _)
    · have hF := qs_neg c4 hF
      refine lv_iload_n hx hb d_Q_wall_14 rfl (lv_at hl 3 rfl) ?_
      obtain ⟨r5, hX, hF⟩ := qs_pb_some hF
      refine qs_psi (va_runS (own := "QuakeServer") (As := [.int (a3)]) (rest := []) ⟨hx, hb, hml, hown, hg⟩ (c_Q_isInWorld l H.size (a3) r5 hX) (va_cwS 1 hg (qs_gS t_212 t_213 t_1 t_214) rfl rfl rfl (by decide +kernel) ⟨Nat.le_of_ble_eq_true rfl, Nat.le_of_ble_eq_true rfl⟩) ⟨qs_blind0, fun U hU hW => ⟨rfl, by rw [hU], hNs.warm hW⟩⟩ rfl rfl hl.1 rfl (lv_room (Nat.le_of_ble_eq_true rfl)) d_Q_wall_15 ⟨Nat.le_of_ble_eq_true rfl, Nat.le_of_ble_eq_true rfl⟩) hP hD hS hA (fun H locs hP hS => ?_)
      refine lv_if_eq (tgt := 29) hx hb d_Q_wall_18 (by decide) (fun c6 => ?_) (fun c6 => ?_)
      · have hF := qs_pos c6 hF
        have h9 := Option.some.inj hF
        exact vx_throwS (text := "a wall\'s side is not -1024 .. 1024") (names := ["java/lang/RuntimeException", "java/lang/Exception"]) hx hb hl9 hown (by decide +kernel) (by decide +kernel) (hg _ t_215) (hg _ t_12) hs63 (ha_Q_65 hg hNs) hd_Q_65 hU hN hS (hl.1.trans hml.symm) d_Q_wall_29 d_Q_wall_32 d_Q_wall_33 d_Q_wall_35 d_Q_wall_38 (fun x h => (ht x h).elim) (Nat.le_of_ble_eq_true rfl) (Nat.le_of_ble_eq_true rfl) (Nat.le_of_ble_eq_true rfl) (Nat.le_of_ble_eq_true rfl) hlocks (fun t hvm hz hk => ⟨g, trivial, ⟨⟨h9.symm, by decide⟩, hP.kept (fun k q hq => hk q.1 (hP k q hq).lt), va_K.moved hvm hK, hD⟩, qs_F hS hz hk⟩) hS.2.2 (Nat.le_refl _) (Nat.le_refl _)
      · have hF := qs_neg c6 hF
        refine lv_iload hx hb d_Q_wall_21 (lv_at hl 4 rfl) ?_
        obtain ⟨r7, hX, hF⟩ := qs_pb_some hF
        refine qs_psi (va_runS (own := "QuakeServer") (As := [.int (a4)]) (rest := []) ⟨hx, hb, hml, hown, hg⟩ (c_Q_isInWorld l H.size (a4) r7 hX) (va_cwS 1 hg (qs_gS t_212 t_213 t_1 t_214) rfl rfl rfl (by decide +kernel) ⟨Nat.le_of_ble_eq_true rfl, Nat.le_of_ble_eq_true rfl⟩) ⟨qs_blind0, fun U hU hW => ⟨rfl, by rw [hU], hNs.warm hW⟩⟩ rfl rfl hl.1 rfl (lv_room (Nat.le_of_ble_eq_true rfl)) d_Q_wall_23 ⟨Nat.le_of_ble_eq_true rfl, Nat.le_of_ble_eq_true rfl⟩) hP hD hS hA (fun H locs hP hS => ?_)
        refine lv_if_ne (tgt := 39) hx hb d_Q_wall_26 (by decide) (fun c8 => ?_) (fun c8 => ?_)
        · have hF := qs_neg c8 hF
          refine lv_iload_n hx hb d_Q_wall_39 rfl (lv_at hl 1 rfl) ?_
          refine lv_iload_n hx hb d_Q_wall_40 rfl (lv_at hl 3 rfl) ?_
          refine lv_icmp_ge (tgt := 50) hx hb d_Q_wall_41 (by decide) (fun c9 => ?_) (fun c9 => ?_)
          · have hF := qs_pos c9 hF
            have h9 := Option.some.inj hF
            exact vx_throwS (text := "a wall ends where it begins, or before") (names := ["java/lang/RuntimeException", "java/lang/Exception"]) hx hb hl9 hown (by decide +kernel) (by decide +kernel) (hg _ t_215) (hg _ t_12) hs68 (ha_Q_65 hg hNs) hd_Q_65 hU hN hS (hl.1.trans hml.symm) d_Q_wall_50 d_Q_wall_53 d_Q_wall_54 d_Q_wall_56 d_Q_wall_59 (fun x h => (ht x h).elim) (Nat.le_of_ble_eq_true rfl) (Nat.le_of_ble_eq_true rfl) (Nat.le_of_ble_eq_true rfl) (Nat.le_of_ble_eq_true rfl) hlocks (fun t hvm hz hk => ⟨g, trivial, ⟨⟨h9.symm, by decide⟩, hP.kept (fun k q hq => hk q.1 (hP k q hq).lt), va_K.moved hvm hK, hD⟩, qs_F hS hz hk⟩) hS.2.2 (Nat.le_refl _) (Nat.le_refl _)
          · have hF := qs_neg c9 hF
            refine lv_iload_n hx hb d_Q_wall_44 rfl (lv_at hl 2 rfl) ?_
            refine lv_iload hx hb d_Q_wall_45 (lv_at hl 4 rfl) ?_
            refine lv_icmp_lt (tgt := 60) hx hb d_Q_wall_47 (by decide) (fun c10 => ?_) (fun c10 => ?_)
            · have hF := qs_pos c10 hF
              refine lv_aload_n hx hb d_Q_wall_60 rfl (lv_at hl 0 rfl) ?_
              refine va_get (D := (dC, dI)) (ci := 6) (v := .ref (h 2)) (C := R_Q) (T := T_Q) (N := 6) hx hb hg in_Q hown hK hP 0 rfl rfl 1 (by decide) (hg _ t_157) (fun _ h9 => h9) rfl d_Q_wall_61 ?_
              refine va_getN (D := (dC, dI)) (ci := 1) (v := .int (g 20 0)) (C := R_W) (T := T_W) (N := 3) hx hb hg in_W hown hK hP 2 rfl rfl 2 (by decide) (va_Nw.use rfl (nF_0 hNs)) (fun _ h9 => h9) rfl d_Q_wall_64 ?_
              refine lv_bipush (v := 6) hx hb d_Q_wall_67 (by decide) ?_
              refine lv_icmp_ne (tgt := 82) hx hb d_Q_wall_69 (by decide) (fun c11 => ?_) (fun c11 => ?_)
              · have hF := qs_neg c11 hF
                refine lv_aload_n hx hb d_Q_wall_82 rfl (lv_at hl 0 rfl) ?_
                refine va_get (D := (dC, dI)) (ci := 6) (v := .ref (h 2)) (C := R_Q) (T := T_Q) (N := 6) hx hb hg in_Q hown hK hP 0 rfl rfl 1 (by decide) (hg _ t_157) (fun _ h9 => h9) rfl d_Q_wall_83 ?_
                refine lv_iload_n hx hb d_Q_wall_86 rfl (lv_at hl 1 rfl) ?_
                refine lv_iload_n hx hb d_Q_wall_87 rfl (lv_at hl 2 rfl) ?_
                refine lv_iload_n hx hb d_Q_wall_88 rfl (lv_at hl 3 rfl) ?_
                refine lv_iload hx hb d_Q_wall_89 (lv_at hl 4 rfl) ?_
                obtain ⟨r12, u13, hX, hF⟩ := qs_bn_some hF
                refine qs_ci (Wd := qs_W h c) (isC := [0, 1, 2, 3, 4, 5, 6, 7, 8, 9, 10, 11, 12, 13, 14, 15, 16]) (va_runV (own := "QuakeServer") (C := "QuakeServer$Walls") (As := [.int (a1), .int (a2), .int (a3), .int (a4)]) (rest := []) ⟨hx, hb, hml, hown, hg⟩ (c_W_add l dC dI h c H.size g (a1) (a2) (a3) (a4) r12 u13 hX) (cwV 4 hg (qs_gV t_300 t_301 t_302 t_3 t_303) rfl rfl rfl (by decide +kernel) ⟨Nat.le_of_ble_eq_true rfl, Nat.le_of_ble_eq_true rfl⟩) ⟨qs_blind, va_recv hK hP (ci := 1) (q0 := 2) rfl rfl, fun U hU hW => ⟨rfl, by rw [hU], by rw [hU]; exact hP, va_K.moved hW.alike hK, hD.weaken (fun _ _ _ _ => trivial), hNs.warm hW⟩⟩ rfl rfl hl.1 rfl (lv_room (Nat.le_of_ble_eq_true rfl)) d_Q_wall_91 ⟨Nat.le_of_ble_eq_true rfl, Nat.le_of_ble_eq_true rfl⟩) rfl hP hD hS hA (fun H locs hP hD hS => ?_)
                have h9 := Option.some.inj hF
                refine vx_ret ?_
                refine W.widen (k := 1) (n := 6) (Nat.le_of_ble_eq_true rfl) (Nat.le_of_ble_eq_true rfl) ?_
                exact W.iret (v := r12) hx hb hr (fun t ht hW => ⟨⟨r12, u13, rfl, h9.symm, by rw [ht]; exact hP, va_K.moved hW.alike hK, hD⟩, hS.F ht⟩) hS.2.2 d_Q_wall_94
              · have hF := qs_pos c11 hF
                have h9 := Option.some.inj hF
                exact vx_throwS (text := "all walls are there") (names := ["java/lang/RuntimeException", "java/lang/Exception"]) hx hb hl9 hown (by decide +kernel) (by decide +kernel) (hg _ t_284) (hg _ t_13) hs76 (ha_Q_78 hg hNs) hd_Q_78 hU hN hS (hl.1.trans hml.symm) d_Q_wall_72 d_Q_wall_75 d_Q_wall_76 d_Q_wall_78 d_Q_wall_81 (fun x h => (ht x h).elim) (Nat.le_of_ble_eq_true rfl) (Nat.le_of_ble_eq_true rfl) (Nat.le_of_ble_eq_true rfl) (Nat.le_of_ble_eq_true rfl) hlocks (fun t hvm hz hk => ⟨g, trivial, ⟨⟨h9.symm, by decide⟩, hP.kept (fun k q hq => hk q.1 (hP k q hq).lt), va_K.moved hvm hK, hD⟩, qs_F hS hz hk⟩) hS.2.2 (Nat.le_refl _) (Nat.le_refl _)
            · have hF := qs_neg c10 hF
              have h9 := Option.some.inj hF
              exact vx_throwS (text := "a wall ends where it begins, or before") (names := ["java/lang/RuntimeException", "java/lang/Exception"]) hx hb hl9 hown (by decide +kernel) (by decide +kernel) (hg _ t_215) (hg _ t_12) hs68 (ha_Q_65 hg hNs) hd_Q_65 hU hN hS (hl.1.trans hml.symm) d_Q_wall_50 d_Q_wall_53 d_Q_wall_54 d_Q_wall_56 d_Q_wall_59 (fun x h => (ht x h).elim) (Nat.le_of_ble_eq_true rfl) (Nat.le_of_ble_eq_true rfl) (Nat.le_of_ble_eq_true rfl) (Nat.le_of_ble_eq_true rfl) hlocks (fun t hvm hz hk => ⟨g, trivial, ⟨⟨h9.symm, by decide⟩, hP.kept (fun k q hq => hk q.1 (hP k q hq).lt), va_K.moved hvm hK, hD⟩, qs_F hS hz hk⟩) hS.2.2 (Nat.le_refl _) (Nat.le_refl _)
        · have hF := qs_pos c8 hF
          have h9 := Option.some.inj hF
          exact vx_throwS (text := "a wall\'s side is not -1024 .. 1024") (names := ["java/lang/RuntimeException", "java/lang/Exception"]) hx hb hl9 hown (by decide +kernel) (by decide +kernel) (hg _ t_215) (hg _ t_12) hs63 (ha_Q_65 hg hNs) hd_Q_65 hU hN hS (hl.1.trans hml.symm) d_Q_wall_29 d_Q_wall_32 d_Q_wall_33 d_Q_wall_35 d_Q_wall_38 (fun x h => (ht x h).elim) (Nat.le_of_ble_eq_true rfl) (Nat.le_of_ble_eq_true rfl) (Nat.le_of_ble_eq_true rfl) (Nat.le_of_ble_eq_true rfl) hlocks (fun t hvm hz hk => ⟨g, trivial, ⟨⟨h9.symm, by decide⟩, hP.kept (fun k q hq => hk q.1 (hP k q hq).lt), va_K.moved hvm hK, hD⟩, qs_F hS hz hk⟩) hS.2.2 (Nat.le_refl _) (Nat.le_refl _)

theorem d_Q_instr_0 : decode b_Q_instr 0 = .ok (.iload_n 1, 1) := by decide +kernel
theorem d_Q_instr_1 : decode b_Q_instr 1 = .ok (.bipush 6, 2) := by decide +kernel
theorem d_Q_instr_3 : decode b_Q_instr 3 = .ok (.invokestatic 83, 3) := by decide +kernel
theorem d_Q_instr_6 : decode b_Q_instr 6 = .ok (.ifCond .eq 15, 3) := by decide +kernel
theorem d_Q_instr_9 : decode b_Q_instr 9 = .ok (.iload_n 2, 1) := by decide +kernel
theorem d_Q_instr_10 : decode b_Q_instr 10 = .ok (.iload_n 3, 1) := by decide +kernel
theorem d_Q_instr_11 : decode b_Q_instr 11 = .ok (.iload 4, 2) := by decide +kernel
theorem d_Q_instr_13 : decode b_Q_instr 13 = .ok (.iload 5, 2) := by decide +kernel
theorem d_Q_instr_15 : decode b_Q_instr 15 = .ok (.invokestatic 87, 3) := by decide +kernel
theorem d_Q_instr_18 : decode b_Q_instr 18 = .ok (.ifCond .ne 13, 3) := by decide +kernel
theorem d_Q_instr_21 : decode b_Q_instr 21 = .ok (.new 61, 3) := by decide +kernel
theorem d_Q_instr_24 : decode b_Q_instr 24 = .ok (.dup, 1) := by decide +kernel
theorem d_Q_instr_25 : decode b_Q_instr 25 = .ok (.ldc 91, 2) := by decide +kernel
theorem d_Q_instr_27 : decode b_Q_instr 27 = .ok (.invokespecial 65, 3) := by decide +kernel
theorem d_Q_instr_30 : decode b_Q_instr 30 = .ok (.athrow, 1) := by decide +kernel
theorem d_Q_instr_31 : decode b_Q_instr 31 = .ok (.aload_n 0, 1) := by decide +kernel
theorem d_Q_instr_32 : decode b_Q_instr 32 = .ok (.getfield 26, 3) := by decide +kernel
theorem d_Q_instr_35 : decode b_Q_instr 35 = .ok (.iload_n 1, 1) := by decide +kernel
theorem d_Q_instr_36 : decode b_Q_instr 36 = .ok (.invokevirtual 93, 3) := by decide +kernel
theorem d_Q_instr_39 : decode b_Q_instr 39 = .ok (.bipush 14, 2) := by decide +kernel
theorem d_Q_instr_41 : decode b_Q_instr 41 = .ok (.if_icmp .ne 13, 3) := by decide +kernel
theorem d_Q_instr_44 : decode b_Q_instr 44 = .ok (.new 74, 3) := by decide +kernel
theorem d_Q_instr_47 : decode b_Q_instr 47 = .ok (.dup, 1) := by decide +kernel
theorem d_Q_instr_48 : decode b_Q_instr 48 = .ok (.ldc 97, 2) := by decide +kernel
theorem d_Q_instr_50 : decode b_Q_instr 50 = .ok (.invokespecial 78, 3) := by decide +kernel
theorem d_Q_instr_53 : decode b_Q_instr 53 = .ok (.athrow, 1) := by decide +kernel
theorem d_Q_instr_54 : decode b_Q_instr 54 = .ok (.aload_n 0, 1) := by decide +kernel
theorem d_Q_instr_55 : decode b_Q_instr 55 = .ok (.getfield 26, 3) := by decide +kernel
theorem d_Q_instr_58 : decode b_Q_instr 58 = .ok (.iload_n 1, 1) := by decide +kernel
theorem d_Q_instr_59 : decode b_Q_instr 59 = .ok (.iload_n 2, 1) := by decide +kernel
theorem d_Q_instr_60 : decode b_Q_instr 60 = .ok (.iload_n 3, 1) := by decide +kernel
theorem d_Q_instr_61 : decode b_Q_instr 61 = .ok (.iload 4, 2) := by decide +kernel
theorem d_Q_instr_63 : decode b_Q_instr 63 = .ok (.iload 5, 2) := by decide +kernel
theorem d_Q_instr_65 : decode b_Q_instr 65 = .ok (.invokevirtual 99, 3) := by decide +kernel
theorem d_Q_instr_68 : decode b_Q_instr 68 = .ok (.ireturn, 1) := by decide +kernel
def f_Q_instr (g : Sg) (a1 : Int32) (a2 : Int32) (a3 : Int32) (a4 : Int32) (a5 : Int32) : Option ((String × Sg) ⊕ (Int32 × Sg)) := (qs_pb (f_Q_isBelow (a1) (6)) fun r1 => (if r1 = 0 then (some (.inl ("java/lang/IllegalArgumentException", g))) else (qs_pb (f_P_isSound (a2) (a3) (a4) (a5)) fun r3 => (if r3 = 0 then (some (.inl ("java/lang/IllegalArgumentException", g))) else (qs_bn (f_P_length g (a1)) fun r5 u6 => (if r5 = 14 then (some (.inl ("java/lang/IllegalStateException", u6))) else (qs_bn (f_P_add u6 (a1) (a2) (a3) (a4) (a5)) fun r8 u9 => (some (.inr (r8, u9))))))))))
set_option maxHeartbeats 4000000 in
set_option maxRecDepth 100000 in
theorem c_Q_instr (l : Launch) (hl9 : l.stackTraces = false) (dC : Nat → ClassId) (dI : Nat → Nat → Nat) (h : Nat → Nat) (c : Nat → ClassId) (sz : Nat) (sa91 : Nat) (sa97 : Nat) (g : Sg) (a1 : Int32) (a2 : Int32) (a3 : Int32) (a4 : Int32) (a5 : Int32) (r0 : ((String × Sg) ⊕ (Int32 × Sg))) (hF : f_Q_instr g a1 a2 a3 a4 a5 = some r0) : vx_Met l y_Q_instr (qs_ws y_Q_instr b_Q_instr 6 (some .int)) ({ frames := 6, cells := 1, slots := 6, locals := 82 } : Room) (va_Pc ([.ref (h 0), .int a1, .int a2, .int a3, .int a4, .int a5] : List Value) (fun U => U.heap.size = sz ∧ va_P (dC, dI) vwCl (qs_W h c g) U.heap ∧ va_K (dC, dI) vwCl (qs_T c) U ∧ va_D (fun _ => True) (qs_W h c g) ∧ qs_N U ∧ vx_Zq Bundle.tN "UNASSIGNED_STACK" Bundle.steD (va_A (qs_W h c g) sz) U U.heap ∧ vx_Zq Bundle.tN "SUPPRESSED_SENTINEL" Bundle.listD (va_A (qs_W h c g) sz) U U.heap ∧ vk_R R_Q 91 "no such instruction" sa91 U ∧ vk_R R_Q 97 "the function is full" sa97 U)) (va_Qi (fun (r : Int32) (u : Sg) => r0 = .inr (r, u)) (qs_at dC dI h c (va_A (qs_W h c g) sz)) (va_A (qs_W h c g) sz)) (vx_X (fun (_ : Sg) => True) (fun E u t => (r0 = .inl (E, u) ∧ E ∈ (["java/lang/IllegalArgumentException", "java/lang/IllegalStateException"] : List String)) ∧ qs_at dC dI h c (va_A (qs_W h c g) sz) u t) (va_A (qs_W h c g) sz)) 1 6 (va_A (qs_W h c g) sz) := by
  refine vx_ofW (cc := b_Q_instr) (maxL := 6) (ret := (some .int)) (by decide +kernel) rfl ?_
  intro p e s m args below meth cd s₁ B hml ht hv
  obtain ⟨rfl, hsz, hP, hK, hD0, hNs, hU, hN, hs91, hs97⟩ := hv
  have hx := B.exec
  have hb := B.bytes
  have hr := B.returns
  have hts := atoms_spec (ws := (qs_ws y_Q_instr b_Q_instr 6 (some .int))) B.pre
  have hg : ∀ w ∈ qs_gt, w.before _ s = true := fun w h => hts w (List.mem_cons_of_mem _ h)
  have hown : s.vm.findClass R_Q = some m.cls := findClass_of_methodNamed B.named
  have hlocks := B.notSynchronized
  subst hsz
  have hD := hD0.self (sz := s.heap.size)
  generalize hAe : va_A (qs_W h c g) s.heap.size = A at hD hU hN ⊢
  have hA : ∀ q : Nat, s.heap.size ≤ q → A q := fun q h => by rw [← hAe]; exact Or.inr h
  have hS : va_S A s.heap s.heap [] := va_S.rf
  have hl := lv_entry ([.ref (h 0), .int a1, .int a2, .int a3, .int a4, .int a5] : List Value) (n := 6) (Nat.le_of_ble_eq_true rfl)
  rw [lg_entry_eq]
  generalize (lg_sl ([.ref (h 0), .int a1, .int a2, .int a3, .int a4, .int a5] : List Value) ++ List.replicate (6 - (lg_sl ([.ref (h 0), .int a1, .int a2, .int a3, .int a4, .int a5] : List Value)).length) Slot.unset).toArray = ls at hl ⊢
  have hl : lv_has ls 6 [(0, .ref (h 0)), (1, .int (a1)), (2, .int (a2)), (3, .int (a3)), (4, .int (a4)), (5, .int (a5))] := hl
  unfold f_Q_instr at hF
  obtain ⟨H, hHe⟩ : ∃ H, H = s.heap := ⟨_, rfl⟩
  obtain ⟨locs, hLe⟩ : ∃ L : List Loc, L = [] := ⟨_, rfl⟩
  rw [← hHe] at hP ⊢
  rw [← hLe]
  have hS : va_S A s.heap H locs := by rw [hHe, hLe]; exact hS
  refine lv_iload_n hx hb d_Q_instr_0 rfl (lv_at hl 1 rfl) ?_
  refine lv_bipush (v := 6) hx hb d_Q_instr_1 (by decide) ?_
  obtain ⟨r1, hX, hF⟩ := qs_pb_some hF
  refine qs_psi (va_runS (own := "QuakeServer") (As := [.int (a1), .int (6)]) (rest := []) ⟨hx, hb, hml, hown, hg⟩ (c_Q_isBelow l H.size (a1) (6) r1 hX) (va_cwS 2 hg (qs_gS t_311 t_312 t_1 t_313) rfl rfl rfl (by decide +kernel) ⟨Nat.le_of_ble_eq_true rfl, Nat.le_of_ble_eq_true rfl⟩) ⟨qs_blind0, fun U hU hW => ⟨rfl, by rw [hU], hNs.warm hW⟩⟩ rfl rfl hl.1 rfl (lv_room (Nat.le_of_ble_eq_true rfl)) d_Q_instr_3 ⟨Nat.le_of_ble_eq_true rfl, Nat.le_of_ble_eq_true rfl⟩) hP hD hS hA (fun H locs hP hS => ?_)
  refine lv_if_eq (tgt := 21) hx hb d_Q_instr_6 (by decide) (fun c2 => ?_) (fun c2 => ?_)
  · have hF := qs_pos c2 hF
    have h9 := Option.some.inj hF
    exact vx_throwS (text := "no such instruction") (names := ["java/lang/RuntimeException", "java/lang/Exception"]) hx hb hl9 hown (by decide +kernel) (by decide +kernel) (hg _ t_215) (hg _ t_12) hs91 (ha_Q_65 hg hNs) hd_Q_65 hU hN hS (hl.1.trans hml.symm) d_Q_instr_21 d_Q_instr_24 d_Q_instr_25 d_Q_instr_27 d_Q_instr_30 (fun x h => (ht x h).elim) (Nat.le_of_ble_eq_true rfl) (Nat.le_of_ble_eq_true rfl) (Nat.le_of_ble_eq_true rfl) (Nat.le_of_ble_eq_true rfl) hlocks (fun t hvm hz hk => ⟨g, trivial, ⟨⟨h9.symm, by decide⟩, hP.kept (fun k q hq => hk q.1 (hP k q hq).lt), va_K.moved hvm hK, hD⟩, qs_F hS hz hk⟩) hS.2.2 (Nat.le_refl _) (Nat.le_refl _)
  · have hF := qs_neg c2 hF
    refine lv_iload_n hx hb d_Q_instr_9 rfl (lv_at hl 2 rfl) ?_
    refine lv_iload_n hx hb d_Q_instr_10 rfl (lv_at hl 3 rfl) ?_
    refine lv_iload hx hb d_Q_instr_11 (lv_at hl 4 rfl) ?_
    refine lv_iload hx hb d_Q_instr_13 (lv_at hl 5 rfl) ?_
    obtain ⟨r3, hX, hF⟩ := qs_pb_some hF
    refine qs_psi (va_runS (own := "QuakeServer") (As := [.int (a2), .int (a3), .int (a4), .int (a5)]) (rest := []) ⟨hx, hb, hml, hown, hg⟩ (c_P_isSound l H.size (a2) (a3) (a4) (a5) r3 hX) (va_cwS 4 hg (qs_gS t_314 t_315 t_4 t_316) rfl rfl rfl (by decide +kernel) ⟨Nat.le_of_ble_eq_true rfl, Nat.le_of_ble_eq_true rfl⟩) ⟨qs_blind0, fun U hU hW => ⟨rfl, by rw [hU], hNs.warm hW⟩⟩ rfl rfl hl.1 rfl (lv_room (Nat.le_of_ble_eq_true rfl)) d_Q_instr_15 ⟨Nat.le_of_ble_eq_true rfl, Nat.le_of_ble_eq_true rfl⟩) hP hD hS hA (fun H locs hP hS => ?_)
    refine lv_if_ne (tgt := 31) hx hb d_Q_instr_18 (by decide) (fun c4 => ?_) (fun c4 => ?_)
    · have hF := qs_neg c4 hF
      refine lv_aload_n hx hb d_Q_instr_31 rfl (lv_at hl 0 rfl) ?_
      refine va_get (D := (dC, dI)) (ci := 6) (v := .ref (h 3)) (C := R_Q) (T := T_Q) (N := 6) hx hb hg in_Q hown hK hP 0 rfl rfl 2 (by decide) (hg _ t_158) (fun _ h9 => h9) rfl d_Q_instr_32 ?_
      refine lv_iload_n hx hb d_Q_instr_35 rfl (lv_at hl 1 rfl) ?_
      obtain ⟨r5, u6, hX, hF⟩ := qs_bn_some hF
      refine qs_ci (Wd := qs_W h c) (isC := [0, 1, 2, 3, 4, 5, 6, 7, 8, 9, 10, 11, 12, 13, 14, 15, 16]) (va_runV (own := "QuakeServer") (C := "QuakeServer$Program") (As := [.int (a1)]) (rest := []) ⟨hx, hb, hml, hown, hg⟩ (c_P_length l dC dI h c H.size g (a1) r5 u6 hX) (cwV 1 hg (qs_gV t_319 t_320 t_321 t_4 t_322) rfl rfl rfl (by decide +kernel) ⟨Nat.le_of_ble_eq_true rfl, Nat.le_of_ble_eq_true rfl⟩) ⟨qs_blind, va_recv hK hP (ci := 2) (q0 := 3) rfl rfl, fun U hU hW => ⟨rfl, by rw [hU], by rw [hU]; exact hP, va_K.moved hW.alike hK, hD.weaken (fun _ _ _ _ => trivial), hNs.warm hW⟩⟩ rfl rfl hl.1 rfl (lv_room (Nat.le_of_ble_eq_true rfl)) d_Q_instr_36 ⟨Nat.le_of_ble_eq_true rfl, Nat.le_of_ble_eq_true rfl⟩) rfl hP hD hS hA (fun H locs hP hD hS => ?_)
      refine lv_bipush (v := 14) hx hb d_Q_instr_39 (by decide) ?_
      refine lv_icmp_ne (tgt := 54) hx hb d_Q_instr_41 (by decide) (fun c7 => ?_) (fun c7 => ?_)
      · have hF := qs_neg c7 hF
        refine lv_aload_n hx hb d_Q_instr_54 rfl (lv_at hl 0 rfl) ?_
        refine va_get (D := (dC, dI)) (ci := 6) (v := .ref (h 3)) (C := R_Q) (T := T_Q) (N := 6) hx hb hg in_Q hown hK hP 0 rfl rfl 2 (by decide) (hg _ t_158) (fun _ h9 => h9) rfl d_Q_instr_55 ?_
        refine lv_iload_n hx hb d_Q_instr_58 rfl (lv_at hl 1 rfl) ?_
        refine lv_iload_n hx hb d_Q_instr_59 rfl (lv_at hl 2 rfl) ?_
        refine lv_iload_n hx hb d_Q_instr_60 rfl (lv_at hl 3 rfl) ?_
        refine lv_iload hx hb d_Q_instr_61 (lv_at hl 4 rfl) ?_
        refine lv_iload hx hb d_Q_instr_63 (lv_at hl 5 rfl) ?_
        obtain ⟨r8, u9, hX, hF⟩ := qs_bn_some hF
        refine qs_ci (Wd := qs_W h c) (isC := [0, 1, 2, 3, 4, 5, 6, 7, 8, 9, 10, 11, 12, 13, 14, 15, 16]) (va_runV (own := "QuakeServer") (C := "QuakeServer$Program") (As := [.int (a1), .int (a2), .int (a3), .int (a4), .int (a5)]) (rest := []) ⟨hx, hb, hml, hown, hg⟩ (c_P_add l dC dI h c H.size u6 (a1) (a2) (a3) (a4) (a5) r8 u9 hX) (cwV 5 hg (qs_gV t_324 t_325 t_326 t_4 t_327) rfl rfl rfl (by decide +kernel) ⟨Nat.le_of_ble_eq_true rfl, Nat.le_of_ble_eq_true rfl⟩) ⟨qs_blind, va_recv hK hP (ci := 2) (q0 := 3) rfl rfl, fun U hU hW => ⟨rfl, by rw [hU], by rw [hU]; exact hP, va_K.moved hW.alike hK, hD.weaken (fun _ _ _ _ => trivial), hNs.warm hW⟩⟩ rfl rfl hl.1 rfl (lv_room (Nat.le_of_ble_eq_true rfl)) d_Q_instr_65 ⟨Nat.le_of_ble_eq_true rfl, Nat.le_of_ble_eq_true rfl⟩) rfl hP hD hS hA (fun H locs hP hD hS => ?_)
        have h9 := Option.some.inj hF
        refine vx_ret ?_
        refine W.widen (k := 1) (n := 6) (Nat.le_of_ble_eq_true rfl) (Nat.le_of_ble_eq_true rfl) ?_
        exact W.iret (v := r8) hx hb hr (fun t ht hW => ⟨⟨r8, u9, rfl, h9.symm, by rw [ht]; exact hP, va_K.moved hW.alike hK, hD⟩, hS.F ht⟩) hS.2.2 d_Q_instr_68
      · have hF := qs_pos c7 hF
        have h9 := Option.some.inj hF
        exact vx_throwS (text := "the function is full") (names := ["java/lang/RuntimeException", "java/lang/Exception"]) hx hb hl9 hown (by decide +kernel) (by decide +kernel) (hg _ t_284) (hg _ t_13) hs97 (ha_Q_78 hg hNs) hd_Q_78 hU hN hS (hl.1.trans hml.symm) d_Q_instr_44 d_Q_instr_47 d_Q_instr_48 d_Q_instr_50 d_Q_instr_53 (fun x h => (ht x h).elim) (Nat.le_of_ble_eq_true rfl) (Nat.le_of_ble_eq_true rfl) (Nat.le_of_ble_eq_true rfl) (Nat.le_of_ble_eq_true rfl) hlocks (fun t hvm hz hk => ⟨u6, trivial, ⟨⟨h9.symm, by decide⟩, hP.kept (fun k q hq => hk q.1 (hP k q hq).lt), va_K.moved hvm hK, hD⟩, qs_F hS hz hk⟩) hS.2.2 (Nat.le_refl _) (Nat.le_refl _)
    · have hF := qs_pos c4 hF
      have h9 := Option.some.inj hF
      exact vx_throwS (text := "no such instruction") (names := ["java/lang/RuntimeException", "java/lang/Exception"]) hx hb hl9 hown (by decide +kernel) (by decide +kernel) (hg _ t_215) (hg _ t_12) hs91 (ha_Q_65 hg hNs) hd_Q_65 hU hN hS (hl.1.trans hml.symm) d_Q_instr_21 d_Q_instr_24 d_Q_instr_25 d_Q_instr_27 d_Q_instr_30 (fun x h => (ht x h).elim) (Nat.le_of_ble_eq_true rfl) (Nat.le_of_ble_eq_true rfl) (Nat.le_of_ble_eq_true rfl) (Nat.le_of_ble_eq_true rfl) hlocks (fun t hvm hz hk => ⟨g, trivial, ⟨⟨h9.symm, by decide⟩, hP.kept (fun k q hq => hk q.1 (hP k q hq).lt), va_K.moved hvm hK, hD⟩, qs_F hS hz hk⟩) hS.2.2 (Nat.le_refl _) (Nat.le_refl _)

theorem d_Q_spawn_0 : decode b_Q_spawn 0 = .ok (.dload_n 1, 1) := by decide +kernel
theorem d_Q_spawn_1 : decode b_Q_spawn 1 = .ok (.invokestatic 102, 3) := by decide +kernel
theorem d_Q_spawn_4 : decode b_Q_spawn 4 = .ok (.ifCond .eq 18, 3) := by decide +kernel
theorem d_Q_spawn_7 : decode b_Q_spawn 7 = .ok (.dload_n 3, 1) := by decide +kernel
theorem d_Q_spawn_8 : decode b_Q_spawn 8 = .ok (.invokestatic 102, 3) := by decide +kernel
theorem d_Q_spawn_11 : decode b_Q_spawn 11 = .ok (.ifCond .eq 11, 3) := by decide +kernel
theorem d_Q_spawn_14 : decode b_Q_spawn 14 = .ok (.dload 5, 2) := by decide +kernel
theorem d_Q_spawn_16 : decode b_Q_spawn 16 = .ok (.invokestatic 102, 3) := by decide +kernel
theorem d_Q_spawn_19 : decode b_Q_spawn 19 = .ok (.ifCond .ne 13, 3) := by decide +kernel
theorem d_Q_spawn_22 : decode b_Q_spawn 22 = .ok (.new 61, 3) := by decide +kernel
theorem d_Q_spawn_25 : decode b_Q_spawn 25 = .ok (.dup, 1) := by decide +kernel
theorem d_Q_spawn_26 : decode b_Q_spawn 26 = .ok (.ldc 106, 2) := by decide +kernel
theorem d_Q_spawn_28 : decode b_Q_spawn 28 = .ok (.invokespecial 65, 3) := by decide +kernel
theorem d_Q_spawn_31 : decode b_Q_spawn 31 = .ok (.athrow, 1) := by decide +kernel
theorem d_Q_spawn_32 : decode b_Q_spawn 32 = .ok (.aload_n 0, 1) := by decide +kernel
theorem d_Q_spawn_33 : decode b_Q_spawn 33 = .ok (.getfield 12, 3) := by decide +kernel
theorem d_Q_spawn_36 : decode b_Q_spawn 36 = .ok (.invokevirtual 108, 3) := by decide +kernel
theorem d_Q_spawn_39 : decode b_Q_spawn 39 = .ok (.istore 7, 2) := by decide +kernel
theorem d_Q_spawn_41 : decode b_Q_spawn 41 = .ok (.iload 7, 2) := by decide +kernel
theorem d_Q_spawn_43 : decode b_Q_spawn 43 = .ok (.iconst (-1), 1) := by decide +kernel
theorem d_Q_spawn_44 : decode b_Q_spawn 44 = .ok (.if_icmp .ne 13, 3) := by decide +kernel
theorem d_Q_spawn_47 : decode b_Q_spawn 47 = .ok (.new 74, 3) := by decide +kernel
theorem d_Q_spawn_50 : decode b_Q_spawn 50 = .ok (.dup, 1) := by decide +kernel
theorem d_Q_spawn_51 : decode b_Q_spawn 51 = .ok (.ldc 112, 2) := by decide +kernel
theorem d_Q_spawn_53 : decode b_Q_spawn 53 = .ok (.invokespecial 78, 3) := by decide +kernel
theorem d_Q_spawn_56 : decode b_Q_spawn 56 = .ok (.athrow, 1) := by decide +kernel
theorem d_Q_spawn_57 : decode b_Q_spawn 57 = .ok (.aload_n 0, 1) := by decide +kernel
theorem d_Q_spawn_58 : decode b_Q_spawn 58 = .ok (.getfield 12, 3) := by decide +kernel
theorem d_Q_spawn_61 : decode b_Q_spawn 61 = .ok (.iload 7, 2) := by decide +kernel
theorem d_Q_spawn_63 : decode b_Q_spawn 63 = .ok (.iconst 0, 1) := by decide +kernel
theorem d_Q_spawn_64 : decode b_Q_spawn 64 = .ok (.dload_n 1, 1) := by decide +kernel
theorem d_Q_spawn_65 : decode b_Q_spawn 65 = .ok (.invokestatic 114, 3) := by decide +kernel
theorem d_Q_spawn_68 : decode b_Q_spawn 68 = .ok (.invokevirtual 118, 3) := by decide +kernel
theorem d_Q_spawn_71 : decode b_Q_spawn 71 = .ok (.aload_n 0, 1) := by decide +kernel
theorem d_Q_spawn_72 : decode b_Q_spawn 72 = .ok (.getfield 12, 3) := by decide +kernel
theorem d_Q_spawn_75 : decode b_Q_spawn 75 = .ok (.iload 7, 2) := by decide +kernel
theorem d_Q_spawn_77 : decode b_Q_spawn 77 = .ok (.iconst 1, 1) := by decide +kernel
theorem d_Q_spawn_78 : decode b_Q_spawn 78 = .ok (.dload_n 3, 1) := by decide +kernel
theorem d_Q_spawn_79 : decode b_Q_spawn 79 = .ok (.invokestatic 114, 3) := by decide +kernel
theorem d_Q_spawn_82 : decode b_Q_spawn 82 = .ok (.invokevirtual 118, 3) := by decide +kernel
theorem d_Q_spawn_85 : decode b_Q_spawn 85 = .ok (.aload_n 0, 1) := by decide +kernel
theorem d_Q_spawn_86 : decode b_Q_spawn 86 = .ok (.getfield 12, 3) := by decide +kernel
theorem d_Q_spawn_89 : decode b_Q_spawn 89 = .ok (.iload 7, 2) := by decide +kernel
theorem d_Q_spawn_91 : decode b_Q_spawn 91 = .ok (.iconst 4, 1) := by decide +kernel
theorem d_Q_spawn_92 : decode b_Q_spawn 92 = .ok (.dload 5, 2) := by decide +kernel
theorem d_Q_spawn_94 : decode b_Q_spawn 94 = .ok (.invokestatic 114, 3) := by decide +kernel
theorem d_Q_spawn_97 : decode b_Q_spawn 97 = .ok (.invokevirtual 118, 3) := by decide +kernel
theorem d_Q_spawn_100 : decode b_Q_spawn 100 = .ok (.iload 7, 2) := by decide +kernel
theorem d_Q_spawn_102 : decode b_Q_spawn 102 = .ok (.ireturn, 1) := by decide +kernel
def f_Q_spawn (g : Sg) (a1 : UInt64) (a2 : UInt64) (a3 : UInt64) : Option ((String × Sg) ⊕ (Int32 × Sg)) := (qs_pb (f_Q_isNumber (a1)) fun r1 => (if r1 = 0 then (some (.inl ("java/lang/IllegalArgumentException", g))) else (qs_pb (f_Q_isNumber (a2)) fun r3 => (if r3 = 0 then (some (.inl ("java/lang/IllegalArgumentException", g))) else (qs_pb (f_Q_isNumber (a3)) fun r5 => (if r5 = 0 then (some (.inl ("java/lang/IllegalArgumentException", g))) else (qs_bn (f_E_create g ) fun r7 u8 => (if r7 = (-1) then (some (.inl ("java/lang/IllegalStateException", u8))) else (qs_pb (f_Q_eighthsOf (a1)) fun r10 => (qs_bn (f_E_put u8 (r7) (0) (r10)) fun _ u12 => (qs_pb (f_Q_eighthsOf (a2)) fun r13 => (qs_bn (f_E_put u12 (r7) (1) (r13)) fun _ u15 => (qs_pb (f_Q_eighthsOf (a3)) fun r16 => (qs_bn (f_E_put u15 (r7) (4) (r16)) fun _ u18 => (some (.inr (r7, u18)))))))))))))))))
set_option maxHeartbeats 4000000 in
set_option maxRecDepth 100000 in
theorem c_Q_spawn (l : Launch) (hl9 : l.stackTraces = false) (dC : Nat → ClassId) (dI : Nat → Nat → Nat) (h : Nat → Nat) (c : Nat → ClassId) (sz : Nat) (sa106 : Nat) (sa112 : Nat) (g : Sg) (a1 : UInt64) (a2 : UInt64) (a3 : UInt64) (r0 : ((String × Sg) ⊕ (Int32 × Sg))) (hF : f_Q_spawn g a1 a2 a3 = some r0) : vx_Met l y_Q_spawn (qs_ws y_Q_spawn b_Q_spawn 8 (some .int)) ({ frames := 6, cells := 1, slots := 6, locals := 82 } : Room) (va_Pc ([.ref (h 0), .double a1, .double a2, .double a3] : List Value) (fun U => U.heap.size = sz ∧ va_P (dC, dI) vwCl (qs_W h c g) U.heap ∧ va_K (dC, dI) vwCl (qs_T c) U ∧ va_D (fun _ => True) (qs_W h c g) ∧ qs_N U ∧ vx_Zq Bundle.tN "UNASSIGNED_STACK" Bundle.steD (va_A (qs_W h c g) sz) U U.heap ∧ vx_Zq Bundle.tN "SUPPRESSED_SENTINEL" Bundle.listD (va_A (qs_W h c g) sz) U U.heap ∧ vk_R R_Q 106 "a number is out of range" sa106 U ∧ vk_R R_Q 112 "all entities are there" sa112 U)) (va_Qi (fun (r : Int32) (u : Sg) => r0 = .inr (r, u)) (qs_at dC dI h c (va_A (qs_W h c g) sz)) (va_A (qs_W h c g) sz)) (vx_X (fun (_ : Sg) => True) (fun E u t => (r0 = .inl (E, u) ∧ E ∈ (["java/lang/IllegalArgumentException", "java/lang/IllegalStateException"] : List String)) ∧ qs_at dC dI h c (va_A (qs_W h c g) sz) u t) (va_A (qs_W h c g) sz)) 1 6 (va_A (qs_W h c g) sz) := by
  refine vx_ofW (cc := b_Q_spawn) (maxL := 8) (ret := (some .int)) (by decide +kernel) rfl ?_
  intro p e s m args below meth cd s₁ B hml ht hv
  obtain ⟨rfl, hsz, hP, hK, hD0, hNs, hU, hN, hs106, hs112⟩ := hv
  have hx := B.exec
  have hb := B.bytes
  have hr := B.returns
  have hts := atoms_spec (ws := (qs_ws y_Q_spawn b_Q_spawn 8 (some .int))) B.pre
  have hg : ∀ w ∈ qs_gt, w.before _ s = true := fun w h => hts w (List.mem_cons_of_mem _ h)
  have hown : s.vm.findClass R_Q = some m.cls := findClass_of_methodNamed B.named
  have hlocks := B.notSynchronized
  subst hsz
  have hD := hD0.self (sz := s.heap.size)
  generalize hAe : va_A (qs_W h c g) s.heap.size = A at hD hU hN ⊢
  have hA : ∀ q : Nat, s.heap.size ≤ q → A q := fun q h => by rw [← hAe]; exact Or.inr h
  have hS : va_S A s.heap s.heap [] := va_S.rf
  have hl := lv_entry ([.ref (h 0), .double a1, .double a2, .double a3] : List Value) (n := 8) (Nat.le_of_ble_eq_true rfl)
  rw [lg_entry_eq]
  generalize (lg_sl ([.ref (h 0), .double a1, .double a2, .double a3] : List Value) ++ List.replicate (8 - (lg_sl ([.ref (h 0), .double a1, .double a2, .double a3] : List Value)).length) Slot.unset).toArray = ls at hl ⊢
  have hl : lv_has ls 8 [(0, .ref (h 0)), (1, .double (a1)), (3, .double (a2)), (5, .double (a3))] := hl
  unfold f_Q_spawn at hF
  obtain ⟨H, hHe⟩ : ∃ H, H = s.heap := ⟨_, rfl⟩
  obtain ⟨locs, hLe⟩ : ∃ L : List Loc, L = [] := ⟨_, rfl⟩
  rw [← hHe] at hP ⊢
  rw [← hLe]
  have hS : va_S A s.heap H locs := by rw [hHe, hLe]; exact hS
  refine lv_dload_n hx hb d_Q_spawn_0 rfl (lv_at hl 1 rfl) ?_
  obtain ⟨r1, hX, hF⟩ := qs_pb_some hF
  refine qs_psi (va_runS (own := "QuakeServer") (As := [.double (a1)]) (rest := []) ⟨hx, hb, hml, hown, hg⟩ (c_Q_isNumber l H.size (a1) r1 hX) (va_cwS 1 hg (qs_gS t_339 t_340 t_1 t_341) rfl rfl rfl (by decide +kernel) ⟨Nat.le_of_ble_eq_true rfl, Nat.le_of_ble_eq_true rfl⟩) ⟨qs_blind0, fun U hU hW => ⟨rfl, by rw [hU], hNs.warm hW⟩⟩ rfl rfl hl.1 rfl (lv_room (Nat.le_of_ble_eq_true rfl)) d_Q_spawn_1 ⟨Nat.le_of_ble_eq_true rfl, Nat.le_of_ble_eq_true rfl⟩) hP hD hS hA (fun H locs hP hS => ?_)
  refine lv_if_eq (tgt := 22) hx hb d_Q_spawn_4 (by decide) (fun c2 => ?_) (fun c2 => ?_)
  · have hF := qs_pos c2 hF
    have h9 := Option.some.inj hF
    exact vx_throwS (text := "a number is out of range") (names := ["java/lang/RuntimeException", "java/lang/Exception"]) hx hb hl9 hown (by decide +kernel) (by decide +kernel) (hg _ t_215) (hg _ t_12) hs106 (ha_Q_65 hg hNs) hd_Q_65 hU hN hS (hl.1.trans hml.symm) d_Q_spawn_22 d_Q_spawn_25 d_Q_spawn_26 d_Q_spawn_28 d_Q_spawn_31 (fun x h => (ht x h).elim) (Nat.le_of_ble_eq_true rfl) (Nat.le_of_ble_eq_true rfl) (Nat.le_of_ble_eq_true rfl) (Nat.le_of_ble_eq_true rfl) hlocks (fun t hvm hz hk => ⟨g, trivial, ⟨⟨h9.symm, by decide⟩, hP.kept (fun k q hq => hk q.1 (hP k q hq).lt), va_K.moved hvm hK, hD⟩, qs_F hS hz hk⟩) hS.2.2 (Nat.le_refl _) (Nat.le_refl _)
  · have hF := qs_neg c2 hF
    refine lv_dload_n hx hb d_Q_spawn_7 rfl (lv_at hl 2 rfl) ?_
    obtain ⟨r3, hX, hF⟩ := qs_pb_some hF
    refine qs_psi (va_runS (own := "QuakeServer") (As := [.double (a2)]) (rest := []) ⟨hx, hb, hml, hown, hg⟩ (c_Q_isNumber l H.size (a2) r3 hX) (va_cwS 1 hg (qs_gS t_339 t_340 t_1 t_341) rfl rfl rfl (by decide +kernel) ⟨Nat.le_of_ble_eq_true rfl, Nat.le_of_ble_eq_true rfl⟩) ⟨qs_blind0, fun U hU hW => ⟨rfl, by rw [hU], hNs.warm hW⟩⟩ rfl rfl hl.1 rfl (lv_room (Nat.le_of_ble_eq_true rfl)) d_Q_spawn_8 ⟨Nat.le_of_ble_eq_true rfl, Nat.le_of_ble_eq_true rfl⟩) hP hD hS hA (fun H locs hP hS => ?_)
    refine lv_if_eq (tgt := 22) hx hb d_Q_spawn_11 (by decide) (fun c4 => ?_) (fun c4 => ?_)
    · have hF := qs_pos c4 hF
      have h9 := Option.some.inj hF
      exact vx_throwS (text := "a number is out of range") (names := ["java/lang/RuntimeException", "java/lang/Exception"]) hx hb hl9 hown (by decide +kernel) (by decide +kernel) (hg _ t_215) (hg _ t_12) hs106 (ha_Q_65 hg hNs) hd_Q_65 hU hN hS (hl.1.trans hml.symm) d_Q_spawn_22 d_Q_spawn_25 d_Q_spawn_26 d_Q_spawn_28 d_Q_spawn_31 (fun x h => (ht x h).elim) (Nat.le_of_ble_eq_true rfl) (Nat.le_of_ble_eq_true rfl) (Nat.le_of_ble_eq_true rfl) (Nat.le_of_ble_eq_true rfl) hlocks (fun t hvm hz hk => ⟨g, trivial, ⟨⟨h9.symm, by decide⟩, hP.kept (fun k q hq => hk q.1 (hP k q hq).lt), va_K.moved hvm hK, hD⟩, qs_F hS hz hk⟩) hS.2.2 (Nat.le_refl _) (Nat.le_refl _)
    · have hF := qs_neg c4 hF
      refine lv_dload hx hb d_Q_spawn_14 (lv_at hl 3 rfl) ?_
      obtain ⟨r5, hX, hF⟩ := qs_pb_some hF
      refine qs_psi (va_runS (own := "QuakeServer") (As := [.double (a3)]) (rest := []) ⟨hx, hb, hml, hown, hg⟩ (c_Q_isNumber l H.size (a3) r5 hX) (va_cwS 1 hg (qs_gS t_339 t_340 t_1 t_341) rfl rfl rfl (by decide +kernel) ⟨Nat.le_of_ble_eq_true rfl, Nat.le_of_ble_eq_true rfl⟩) ⟨qs_blind0, fun U hU hW => ⟨rfl, by rw [hU], hNs.warm hW⟩⟩ rfl rfl hl.1 rfl (lv_room (Nat.le_of_ble_eq_true rfl)) d_Q_spawn_16 ⟨Nat.le_of_ble_eq_true rfl, Nat.le_of_ble_eq_true rfl⟩) hP hD hS hA (fun H locs hP hS => ?_)
      refine lv_if_ne (tgt := 32) hx hb d_Q_spawn_19 (by decide) (fun c6 => ?_) (fun c6 => ?_)
      · have hF := qs_neg c6 hF
        refine lv_aload_n hx hb d_Q_spawn_32 rfl (lv_at hl 0 rfl) ?_
        refine va_get (D := (dC, dI)) (ci := 6) (v := .ref (h 1)) (C := R_Q) (T := T_Q) (N := 6) hx hb hg in_Q hown hK hP 0 rfl rfl 0 (by decide) (hg _ t_156) (fun _ h9 => h9) rfl d_Q_spawn_33 ?_
        obtain ⟨r7, u8, hX, hF⟩ := qs_bn_some hF
        refine qs_ci (Wd := qs_W h c) (isC := [0, 1, 2, 3, 4, 5, 6, 7, 8, 9, 10, 11, 12, 13, 14, 15, 16]) (va_runV (own := "QuakeServer") (C := "QuakeServer$Entities") (As := []) (rest := []) ⟨hx, hb, hml, hown, hg⟩ (c_E_create l dC dI h c H.size g  r7 u8 hX) (cwV 0 hg (qs_gV t_345 t_346 t_347 t_2 t_348) rfl rfl rfl (by decide +kernel) ⟨Nat.le_of_ble_eq_true rfl, Nat.le_of_ble_eq_true rfl⟩) ⟨qs_blind, va_recv hK hP (ci := 0) (q0 := 1) rfl rfl, fun U hU hW => ⟨rfl, by rw [hU], by rw [hU]; exact hP, va_K.moved hW.alike hK, hD.weaken (fun _ _ _ _ => trivial), hNs.warm hW⟩⟩ rfl rfl hl.1 rfl (lv_room (Nat.le_of_ble_eq_true rfl)) d_Q_spawn_36 ⟨Nat.le_of_ble_eq_true rfl, Nat.le_of_ble_eq_true rfl⟩) rfl hP hD hS hA (fun H locs hP hD hS => ?_)
        refine lv_istore (lv' := [(7, .int (r7)), (0, .ref (h 0)), (1, .double (a1)), (3, .double (a2)), (5, .double (a3))]) hx hb d_Q_spawn_39 hl (by decide) rfl (fun ls hl => ?_)
        refine lv_iload hx hb d_Q_spawn_41 (lv_at hl 0 rfl) ?_
        refine lv_iconst (v := (-1)) hx hb d_Q_spawn_43 (by decide) ?_
        refine lv_icmp_ne (tgt := 57) hx hb d_Q_spawn_44 (by decide) (fun c9 => ?_) (fun c9 => ?_)
        · have hF := qs_neg c9 hF
          refine lv_aload_n hx hb d_Q_spawn_57 rfl (lv_at hl 1 rfl) ?_
          refine va_get (D := (dC, dI)) (ci := 6) (v := .ref (h 1)) (C := R_Q) (T := T_Q) (N := 6) hx hb hg in_Q hown hK hP 0 rfl rfl 0 (by decide) (hg _ t_156) (fun _ h9 => h9) rfl d_Q_spawn_58 ?_
          refine lv_iload hx hb d_Q_spawn_61 (lv_at hl 0 rfl) ?_
          refine lv_iconst (v := 0) hx hb d_Q_spawn_63 (by decide) ?_
          refine lv_dload_n hx hb d_Q_spawn_64 rfl (lv_at hl 2 rfl) ?_
          obtain ⟨r10, hX, hF⟩ := qs_pb_some hF
          refine qs_psi (va_runS (own := "QuakeServer") (As := [.double (a1)]) (rest := [.int (0), .int (r7), .ref (h 1)]) ⟨hx, hb, hml, hown, hg⟩ (c_Q_eighthsOf l H.size (a1) r10 hX) (va_cwS 1 hg (qs_gS t_350 t_351 t_1 t_352) rfl rfl rfl (by decide +kernel) ⟨Nat.le_of_ble_eq_true rfl, Nat.le_of_ble_eq_true rfl⟩) ⟨qs_blind0, fun U hU hW => ⟨rfl, by rw [hU], hNs.warm hW⟩⟩ rfl rfl hl.1 rfl (lv_room (Nat.le_of_ble_eq_true rfl)) d_Q_spawn_65 ⟨Nat.le_of_ble_eq_true rfl, Nat.le_of_ble_eq_true rfl⟩) hP hD hS hA (fun H locs hP hS => ?_)
          obtain ⟨r11, u12, hX, hF⟩ := qs_bn_some hF
          refine qs_cv (Wd := qs_W h c) (isC := [0, 1, 2, 3, 4, 5, 6, 7, 8, 9, 10, 11, 12, 13, 14, 15, 16]) (va_runV (own := "QuakeServer") (C := "QuakeServer$Entities") (As := [.int (r7), .int (0), .int (r10)]) (rest := []) ⟨hx, hb, hml, hown, hg⟩ (c_E_put l dC dI h c H.size u8 (r7) (0) (r10)  u12 hX) (cwV 3 hg (qs_gV t_354 t_355 t_356 t_2 t_357) rfl rfl rfl (by decide +kernel) ⟨Nat.le_of_ble_eq_true rfl, Nat.le_of_ble_eq_true rfl⟩) ⟨qs_blind, va_recv hK hP (ci := 0) (q0 := 1) rfl rfl, fun U hU hW => ⟨rfl, by rw [hU], by rw [hU]; exact hP, va_K.moved hW.alike hK, hD.weaken (fun _ _ _ _ => trivial), hNs.warm hW⟩⟩ rfl rfl hl.1 rfl (lv_room (Nat.le_of_ble_eq_true rfl)) d_Q_spawn_68 ⟨Nat.le_of_ble_eq_true rfl, Nat.le_of_ble_eq_true rfl⟩) rfl hP hD hS hA (fun H locs hP hD hS => ?_)
          refine lv_aload_n hx hb d_Q_spawn_71 rfl (lv_at hl 1 rfl) ?_
          refine va_get (D := (dC, dI)) (ci := 6) (v := .ref (h 1)) (C := R_Q) (T := T_Q) (N := 6) hx hb hg in_Q hown hK hP 0 rfl rfl 0 (by decide) (hg _ t_156) (fun _ h9 => h9) rfl d_Q_spawn_72 ?_
          refine lv_iload hx hb d_Q_spawn_75 (lv_at hl 0 rfl) ?_
          refine lv_iconst (v := 1) hx hb d_Q_spawn_77 (by decide) ?_
          refine lv_dload_n hx hb d_Q_spawn_78 rfl (lv_at hl 3 rfl) ?_
          obtain ⟨r13, hX, hF⟩ := qs_pb_some hF
          refine qs_psi (va_runS (own := "QuakeServer") (As := [.double (a2)]) (rest := [.int (1), .int (r7), .ref (h 1)]) ⟨hx, hb, hml, hown, hg⟩ (c_Q_eighthsOf l H.size (a2) r13 hX) (va_cwS 1 hg (qs_gS t_350 t_351 t_1 t_352) rfl rfl rfl (by decide +kernel) ⟨Nat.le_of_ble_eq_true rfl, Nat.le_of_ble_eq_true rfl⟩) ⟨qs_blind0, fun U hU hW => ⟨rfl, by rw [hU], hNs.warm hW⟩⟩ rfl rfl hl.1 rfl (lv_room (Nat.le_of_ble_eq_true rfl)) d_Q_spawn_79 ⟨Nat.le_of_ble_eq_true rfl, Nat.le_of_ble_eq_true rfl⟩) hP hD hS hA (fun H locs hP hS => ?_)
          obtain ⟨r14, u15, hX, hF⟩ := qs_bn_some hF
          refine qs_cv (Wd := qs_W h c) (isC := [0, 1, 2, 3, 4, 5, 6, 7, 8, 9, 10, 11, 12, 13, 14, 15, 16]) (va_runV (own := "QuakeServer") (C := "QuakeServer$Entities") (As := [.int (r7), .int (1), .int (r13)]) (rest := []) ⟨hx, hb, hml, hown, hg⟩ (c_E_put l dC dI h c H.size u12 (r7) (1) (r13)  u15 hX) (cwV 3 hg (qs_gV t_354 t_355 t_356 t_2 t_357) rfl rfl rfl (by decide +kernel) ⟨Nat.le_of_ble_eq_true rfl, Nat.le_of_ble_eq_true rfl⟩) ⟨qs_blind, va_recv hK hP (ci := 0) (q0 := 1) rfl rfl, fun U hU hW => ⟨rfl, by rw [hU], by rw [hU]; exact hP, va_K.moved hW.alike hK, hD.weaken (fun _ _ _ _ => trivial), hNs.warm hW⟩⟩ rfl rfl hl.1 rfl (lv_room (Nat.le_of_ble_eq_true rfl)) d_Q_spawn_82 ⟨Nat.le_of_ble_eq_true rfl, Nat.le_of_ble_eq_true rfl⟩) rfl hP hD hS hA (fun H locs hP hD hS => ?_)
          refine lv_aload_n hx hb d_Q_spawn_85 rfl (lv_at hl 1 rfl) ?_
          refine va_get (D := (dC, dI)) (ci := 6) (v := .ref (h 1)) (C := R_Q) (T := T_Q) (N := 6) hx hb hg in_Q hown hK hP 0 rfl rfl 0 (by decide) (hg _ t_156) (fun _ h9 => h9) rfl d_Q_spawn_86 ?_
          refine lv_iload hx hb d_Q_spawn_89 (lv_at hl 0 rfl) ?_
          refine lv_iconst (v := 4) hx hb d_Q_spawn_91 (by decide) ?_
          refine lv_dload hx hb d_Q_spawn_92 (lv_at hl 4 rfl) ?_
          obtain ⟨r16, hX, hF⟩ := qs_pb_some hF
          refine qs_psi (va_runS (own := "QuakeServer") (As := [.double (a3)]) (rest := [.int (4), .int (r7), .ref (h 1)]) ⟨hx, hb, hml, hown, hg⟩ (c_Q_eighthsOf l H.size (a3) r16 hX) (va_cwS 1 hg (qs_gS t_350 t_351 t_1 t_352) rfl rfl rfl (by decide +kernel) ⟨Nat.le_of_ble_eq_true rfl, Nat.le_of_ble_eq_true rfl⟩) ⟨qs_blind0, fun U hU hW => ⟨rfl, by rw [hU], hNs.warm hW⟩⟩ rfl rfl hl.1 rfl (lv_room (Nat.le_of_ble_eq_true rfl)) d_Q_spawn_94 ⟨Nat.le_of_ble_eq_true rfl, Nat.le_of_ble_eq_true rfl⟩) hP hD hS hA (fun H locs hP hS => ?_)
          obtain ⟨r17, u18, hX, hF⟩ := qs_bn_some hF
          refine qs_cv (Wd := qs_W h c) (isC := [0, 1, 2, 3, 4, 5, 6, 7, 8, 9, 10, 11, 12, 13, 14, 15, 16]) (va_runV (own := "QuakeServer") (C := "QuakeServer$Entities") (As := [.int (r7), .int (4), .int (r16)]) (rest := []) ⟨hx, hb, hml, hown, hg⟩ (c_E_put l dC dI h c H.size u15 (r7) (4) (r16)  u18 hX) (cwV 3 hg (qs_gV t_354 t_355 t_356 t_2 t_357) rfl rfl rfl (by decide +kernel) ⟨Nat.le_of_ble_eq_true rfl, Nat.le_of_ble_eq_true rfl⟩) ⟨qs_blind, va_recv hK hP (ci := 0) (q0 := 1) rfl rfl, fun U hU hW => ⟨rfl, by rw [hU], by rw [hU]; exact hP, va_K.moved hW.alike hK, hD.weaken (fun _ _ _ _ => trivial), hNs.warm hW⟩⟩ rfl rfl hl.1 rfl (lv_room (Nat.le_of_ble_eq_true rfl)) d_Q_spawn_97 ⟨Nat.le_of_ble_eq_true rfl, Nat.le_of_ble_eq_true rfl⟩) rfl hP hD hS hA (fun H locs hP hD hS => ?_)
          refine lv_iload hx hb d_Q_spawn_100 (lv_at hl 0 rfl) ?_
          have h9 := Option.some.inj hF
          refine vx_ret ?_
          refine W.widen (k := 1) (n := 6) (Nat.le_of_ble_eq_true rfl) (Nat.le_of_ble_eq_true rfl) ?_
          exact W.iret (v := r7) hx hb hr (fun t ht hW => ⟨⟨r7, u18, rfl, h9.symm, by rw [ht]; exact hP, va_K.moved hW.alike hK, hD⟩, hS.F ht⟩) hS.2.2 d_Q_spawn_102
        · have hF := qs_pos c9 hF
          have h9 := Option.some.inj hF
          exact vx_throwS (text := "all entities are there") (names := ["java/lang/RuntimeException", "java/lang/Exception"]) hx hb hl9 hown (by decide +kernel) (by decide +kernel) (hg _ t_284) (hg _ t_13) hs112 (ha_Q_78 hg hNs) hd_Q_78 hU hN hS (hl.1.trans hml.symm) d_Q_spawn_47 d_Q_spawn_50 d_Q_spawn_51 d_Q_spawn_53 d_Q_spawn_56 (fun x h => (ht x h).elim) (Nat.le_of_ble_eq_true rfl) (Nat.le_of_ble_eq_true rfl) (Nat.le_of_ble_eq_true rfl) (Nat.le_of_ble_eq_true rfl) hlocks (fun t hvm hz hk => ⟨u8, trivial, ⟨⟨h9.symm, by decide⟩, hP.kept (fun k q hq => hk q.1 (hP k q hq).lt), va_K.moved hvm hK, hD⟩, qs_F hS hz hk⟩) hS.2.2 (Nat.le_refl _) (Nat.le_refl _)
      · have hF := qs_pos c6 hF
        have h9 := Option.some.inj hF
        exact vx_throwS (text := "a number is out of range") (names := ["java/lang/RuntimeException", "java/lang/Exception"]) hx hb hl9 hown (by decide +kernel) (by decide +kernel) (hg _ t_215) (hg _ t_12) hs106 (ha_Q_65 hg hNs) hd_Q_65 hU hN hS (hl.1.trans hml.symm) d_Q_spawn_22 d_Q_spawn_25 d_Q_spawn_26 d_Q_spawn_28 d_Q_spawn_31 (fun x h => (ht x h).elim) (Nat.le_of_ble_eq_true rfl) (Nat.le_of_ble_eq_true rfl) (Nat.le_of_ble_eq_true rfl) (Nat.le_of_ble_eq_true rfl) hlocks (fun t hvm hz hk => ⟨g, trivial, ⟨⟨h9.symm, by decide⟩, hP.kept (fun k q hq => hk q.1 (hP k q hq).lt), va_K.moved hvm hK, hD⟩, qs_F hS hz hk⟩) hS.2.2 (Nat.le_refl _) (Nat.le_refl _)
