theorem d_Q_remove_0 : decode b_Q_remove 0 = .ok (.aload_n 0, 1) := by decide +kernel
theorem d_Q_remove_1 : decode b_Q_remove 1 = .ok (.getfield 12, 3) := by decide +kernel
theorem d_Q_remove_4 : decode b_Q_remove 4 = .ok (.iload_n 1, 1) := by decide +kernel
theorem d_Q_remove_5 : decode b_Q_remove 5 = .ok (.invokevirtual 122, 3) := by decide +kernel
theorem d_Q_remove_8 : decode b_Q_remove 8 = .ok (.ifCond .ne 13, 3) := by decide +kernel
theorem d_Q_remove_11 : decode b_Q_remove 11 = .ok (.new 125, 3) := by decide +kernel
theorem d_Q_remove_14 : decode b_Q_remove 14 = .ok (.dup, 1) := by decide +kernel
theorem d_Q_remove_15 : decode b_Q_remove 15 = .ok (.ldc 127, 2) := by decide +kernel
theorem d_Q_remove_17 : decode b_Q_remove 17 = .ok (.invokespecial 129, 3) := by decide +kernel
theorem d_Q_remove_20 : decode b_Q_remove 20 = .ok (.athrow, 1) := by decide +kernel
theorem d_Q_remove_21 : decode b_Q_remove 21 = .ok (.aload_n 0, 1) := by decide +kernel
theorem d_Q_remove_22 : decode b_Q_remove 22 = .ok (.getfield 12, 3) := by decide +kernel
theorem d_Q_remove_25 : decode b_Q_remove 25 = .ok (.iload_n 1, 1) := by decide +kernel
theorem d_Q_remove_26 : decode b_Q_remove 26 = .ok (.invokevirtual 130, 3) := by decide +kernel
theorem d_Q_remove_29 : decode b_Q_remove 29 = .ok (.iconst 1, 1) := by decide +kernel
theorem d_Q_remove_30 : decode b_Q_remove 30 = .ok (.ireturn, 1) := by decide +kernel
def f_Q_remove (g : Sg) (a1 : Int32) : Option ((String × Sg) ⊕ (Int32 × Sg)) := (qs_bn (f_E_isThere g (a1)) fun r1 u2 => (if r1 = 0 then (some (.inl ("java/util/NoSuchElementException", u2))) else (qs_bn (f_E_erase u2 (a1)) fun _ u5 => (some (.inr (1, u5))))))
set_option maxHeartbeats 4000000 in
set_option maxRecDepth 100000 in
theorem c_Q_remove (l : Launch) (hl9 : l.stackTraces = false) (dC : Nat → ClassId) (dI : Nat → Nat → Nat) (h : Nat → Nat) (c : Nat → ClassId) (sz : Nat) (sa127 : Nat) (g : Sg) (a1 : Int32) (r0 : ((String × Sg) ⊕ (Int32 × Sg))) (hF : f_Q_remove g a1 = some r0) : vx_Met l y_Q_remove (qs_ws y_Q_remove b_Q_remove 2 (some .int)) ({ frames := 6, cells := 1, slots := 6, locals := 82 } : Room) (va_Pc ([.ref (h 0), .int a1] : List Value) (fun U => U.heap.size = sz ∧ va_P (dC, dI) vwCl (qs_W h c g) U.heap ∧ va_K (dC, dI) vwCl (qs_T c) U ∧ va_D (fun _ => True) (qs_W h c g) ∧ qs_N U ∧ vx_Zq Bundle.tN "UNASSIGNED_STACK" Bundle.steD (va_A (qs_W h c g) sz) U U.heap ∧ vx_Zq Bundle.tN "SUPPRESSED_SENTINEL" Bundle.listD (va_A (qs_W h c g) sz) U U.heap ∧ vk_R R_Q 127 "the entity is not there" sa127 U)) (va_Qi (fun (r : Int32) (u : Sg) => r0 = .inr (r, u)) (qs_at dC dI h c (va_A (qs_W h c g) sz)) (va_A (qs_W h c g) sz)) (vx_X (fun (_ : Sg) => True) (fun E u t => (r0 = .inl (E, u) ∧ E ∈ (["java/util/NoSuchElementException"] : List String)) ∧ qs_at dC dI h c (va_A (qs_W h c g) sz) u t) (va_A (qs_W h c g) sz)) 1 6 (va_A (qs_W h c g) sz) := by
  refine vx_ofW (cc := b_Q_remove) (maxL := 2) (ret := (some .int)) (by decide +kernel) rfl ?_
  intro p e s m args below meth cd s₁ B hml ht hv
  obtain ⟨rfl, hsz, hP, hK, hD0, hNs, hU, hN, hs127⟩ := hv
  have hx := B.exec
  have hb := B.bytes
  have hr := B.returns
  have hts := atoms_spec (ws := (qs_ws y_Q_remove b_Q_remove 2 (some .int))) B.pre
  have hg : ∀ w ∈ qs_gt, w.before _ s = true := fun w h => hts w (List.mem_cons_of_mem _ h)
  have hown : s.vm.findClass R_Q = some m.cls := findClass_of_methodNamed B.named
  have hlocks := B.notSynchronized
  subst hsz
  have hD := hD0.self (sz := s.heap.size)
  generalize hAe : va_A (qs_W h c g) s.heap.size = A at hD hU hN ⊢
  have hA : ∀ q : Nat, s.heap.size ≤ q → A q := fun q h => by rw [← hAe]; exact Or.inr h
  have hS : va_S A s.heap s.heap [] := va_S.rf
  have hl := lv_entry ([.ref (h 0), .int a1] : List Value) (n := 2) (Nat.le_of_ble_eq_true rfl)
  rw [lg_entry_eq]
  generalize (lg_sl ([.ref (h 0), .int a1] : List Value) ++ List.replicate (2 - (lg_sl ([.ref (h 0), .int a1] : List Value)).length) Slot.unset).toArray = ls at hl ⊢
  have hl : lv_has ls 2 [(0, .ref (h 0)), (1, .int (a1))] := hl
  unfold f_Q_remove at hF
  obtain ⟨H, hHe⟩ : ∃ H, H = s.heap := ⟨_, rfl⟩
  obtain ⟨locs, hLe⟩ : ∃ L : List Loc, L = [] := ⟨_, rfl⟩
  rw [← hHe] at hP ⊢
  rw [← hLe]
  have hS : va_S A s.heap H locs := by rw [hHe, hLe]; exact hS
  refine lv_aload_n hx hb d_Q_remove_0 rfl (lv_at hl 0 rfl) ?_
  refine va_get (D := (dC, dI)) (ci := 6) (v := .ref (h 1)) (C := R_Q) (T := T_Q) (N := 6) hx hb hg in_Q hown hK hP 0 rfl rfl 0 (by decide) (hg _ t_156) (fun _ h9 => h9) rfl d_Q_remove_1 ?_
  refine lv_iload_n hx hb d_Q_remove_4 rfl (lv_at hl 1 rfl) ?_
  obtain ⟨r1, u2, hX, hF⟩ := qs_bn_some hF
  refine qs_ci (Wd := qs_W h c) (isC := [0, 1, 2, 3, 4, 5, 6, 7, 8, 9, 10, 11, 12, 13, 14, 15, 16]) (va_runV (own := "QuakeServer") (C := "QuakeServer$Entities") (As := [.int (a1)]) (rest := []) ⟨hx, hb, hml, hown, hg⟩ (c_E_isThere l dC dI h c H.size g (a1) r1 u2 hX) (cwV 1 hg (qs_gV t_367 t_188 t_189 t_2 t_190) rfl rfl rfl (by decide +kernel) ⟨Nat.le_of_ble_eq_true rfl, Nat.le_of_ble_eq_true rfl⟩) ⟨qs_blind, va_recv hK hP (ci := 0) (q0 := 1) rfl rfl, fun U hU hW => ⟨rfl, by rw [hU], by rw [hU]; exact hP, va_K.moved hW.alike hK, hD.weaken (fun _ _ _ _ => trivial), hNs.warm hW⟩⟩ rfl rfl hl.1 rfl (lv_room (Nat.le_of_ble_eq_true rfl)) d_Q_remove_5 ⟨Nat.le_of_ble_eq_true rfl, Nat.le_of_ble_eq_true rfl⟩) rfl hP hD hS hA (fun H locs hP hD hS => ?_)
  refine lv_if_ne (tgt := 21) hx hb d_Q_remove_8 (by decide) (fun c3 => ?_) (fun c3 => ?_)
  · have hF := qs_neg c3 hF
    refine lv_aload_n hx hb d_Q_remove_21 rfl (lv_at hl 0 rfl) ?_
    refine va_get (D := (dC, dI)) (ci := 6) (v := .ref (h 1)) (C := R_Q) (T := T_Q) (N := 6) hx hb hg in_Q hown hK hP 0 rfl rfl 0 (by decide) (hg _ t_156) (fun _ h9 => h9) rfl d_Q_remove_22 ?_
    refine lv_iload_n hx hb d_Q_remove_25 rfl (lv_at hl 1 rfl) ?_
    obtain ⟨r4, u5, hX, hF⟩ := qs_bn_some hF
    refine qs_cv (Wd := qs_W h c) (isC := [0, 1, 2, 3, 4, 5, 6, 7, 8, 9, 10, 11, 12, 13, 14, 15, 16]) (va_runV (own := "QuakeServer") (C := "QuakeServer$Entities") (As := [.int (a1)]) (rest := []) ⟨hx, hb, hml, hown, hg⟩ (c_E_erase l dC dI h c H.size u2 (a1)  u5 hX) (cwV 1 hg (qs_gV t_384 t_385 t_386 t_2 t_387) rfl rfl rfl (by decide +kernel) ⟨Nat.le_of_ble_eq_true rfl, Nat.le_of_ble_eq_true rfl⟩) ⟨qs_blind, va_recv hK hP (ci := 0) (q0 := 1) rfl rfl, fun U hU hW => ⟨rfl, by rw [hU], by rw [hU]; exact hP, va_K.moved hW.alike hK, hD.weaken (fun _ _ _ _ => trivial), hNs.warm hW⟩⟩ rfl rfl hl.1 rfl (lv_room (Nat.le_of_ble_eq_true rfl)) d_Q_remove_26 ⟨Nat.le_of_ble_eq_true rfl, Nat.le_of_ble_eq_true rfl⟩) rfl hP hD hS hA (fun H locs hP hD hS => ?_)
    refine lv_iconst (v := 1) hx hb d_Q_remove_29 (by decide) ?_
    have h9 := Option.some.inj hF
    refine vx_ret ?_
    refine W.widen (k := 1) (n := 6) (Nat.le_of_ble_eq_true rfl) (Nat.le_of_ble_eq_true rfl) ?_
    exact W.iret (v := 1) hx hb hr (fun t ht hW => ⟨⟨1, u5, rfl, h9.symm, by rw [ht]; exact hP, va_K.moved hW.alike hK, hD⟩, hS.F ht⟩) hS.2.2 d_Q_remove_30
  · have hF := qs_pos c3 hF
    have h9 := Option.some.inj hF
    exact qn_throwS (text := "the entity is not there") (Y9 := "java/lang/RuntimeException") (r9 := ["java/lang/Exception"]) hx hb hl9 hown (by decide +kernel) (by decide +kernel) (by decide +kernel) (hg _ t_368) (hg _ t_14) hs127 (ha_Q_129 hg hNs) hd_Q_129 hU hN hS (hl.1.trans hml.symm) d_Q_remove_11 d_Q_remove_14 d_Q_remove_15 d_Q_remove_17 d_Q_remove_20 (fun x h => (ht x h).elim) (Nat.le_of_ble_eq_true rfl) (Nat.le_of_ble_eq_true rfl) (Nat.le_of_ble_eq_true rfl) (Nat.le_of_ble_eq_true rfl) hlocks (fun t hvm hz hk => ⟨u2, trivial, ⟨⟨h9.symm, by decide⟩, hP.kept (fun k q hq => hk q.1 (hP k q hq).lt), va_K.moved hvm hK, hD⟩, qs_F hS hz hk⟩) hS.2.2 (Nat.le_refl _) (Nat.le_refl _)

theorem d_Q_set_0 : decode b_Q_set 0 = .ok (.aload_n 0, 1) := by decide +kernel
theorem d_Q_set_1 : decode b_Q_set 1 = .ok (.getfield 12, 3) := by decide +kernel
theorem d_Q_set_4 : decode b_Q_set 4 = .ok (.iload_n 1, 1) := by decide +kernel
theorem d_Q_set_5 : decode b_Q_set 5 = .ok (.invokevirtual 122, 3) := by decide +kernel
theorem d_Q_set_8 : decode b_Q_set 8 = .ok (.ifCond .ne 13, 3) := by decide +kernel
theorem d_Q_set_11 : decode b_Q_set 11 = .ok (.new 125, 3) := by decide +kernel
theorem d_Q_set_14 : decode b_Q_set 14 = .ok (.dup, 1) := by decide +kernel
theorem d_Q_set_15 : decode b_Q_set 15 = .ok (.ldc 127, 2) := by decide +kernel
theorem d_Q_set_17 : decode b_Q_set 17 = .ok (.invokespecial 129, 3) := by decide +kernel
theorem d_Q_set_20 : decode b_Q_set 20 = .ok (.athrow, 1) := by decide +kernel
theorem d_Q_set_21 : decode b_Q_set 21 = .ok (.iload_n 2, 1) := by decide +kernel
theorem d_Q_set_22 : decode b_Q_set 22 = .ok (.bipush 16, 2) := by decide +kernel
theorem d_Q_set_24 : decode b_Q_set 24 = .ok (.invokestatic 83, 3) := by decide +kernel
theorem d_Q_set_27 : decode b_Q_set 27 = .ok (.ifCond .eq 10, 3) := by decide +kernel
theorem d_Q_set_30 : decode b_Q_set 30 = .ok (.dload_n 3, 1) := by decide +kernel
theorem d_Q_set_31 : decode b_Q_set 31 = .ok (.invokestatic 102, 3) := by decide +kernel
theorem d_Q_set_34 : decode b_Q_set 34 = .ok (.ifCond .ne 13, 3) := by decide +kernel
theorem d_Q_set_37 : decode b_Q_set 37 = .ok (.new 61, 3) := by decide +kernel
theorem d_Q_set_40 : decode b_Q_set 40 = .ok (.dup, 1) := by decide +kernel
theorem d_Q_set_41 : decode b_Q_set 41 = .ok (.ldc 134, 2) := by decide +kernel
theorem d_Q_set_43 : decode b_Q_set 43 = .ok (.invokespecial 65, 3) := by decide +kernel
theorem d_Q_set_46 : decode b_Q_set 46 = .ok (.athrow, 1) := by decide +kernel
theorem d_Q_set_47 : decode b_Q_set 47 = .ok (.aload_n 0, 1) := by decide +kernel
theorem d_Q_set_48 : decode b_Q_set 48 = .ok (.getfield 12, 3) := by decide +kernel
theorem d_Q_set_51 : decode b_Q_set 51 = .ok (.iload_n 1, 1) := by decide +kernel
theorem d_Q_set_52 : decode b_Q_set 52 = .ok (.iload_n 2, 1) := by decide +kernel
theorem d_Q_set_53 : decode b_Q_set 53 = .ok (.invokevirtual 136, 3) := by decide +kernel
theorem d_Q_set_56 : decode b_Q_set 56 = .ok (.invokestatic 140, 3) := by decide +kernel
theorem d_Q_set_59 : decode b_Q_set 59 = .ok (.dstore 5, 2) := by decide +kernel
theorem d_Q_set_61 : decode b_Q_set 61 = .ok (.aload_n 0, 1) := by decide +kernel
theorem d_Q_set_62 : decode b_Q_set 62 = .ok (.getfield 12, 3) := by decide +kernel
theorem d_Q_set_65 : decode b_Q_set 65 = .ok (.iload_n 1, 1) := by decide +kernel
theorem d_Q_set_66 : decode b_Q_set 66 = .ok (.iload_n 2, 1) := by decide +kernel
theorem d_Q_set_67 : decode b_Q_set 67 = .ok (.dload_n 3, 1) := by decide +kernel
theorem d_Q_set_68 : decode b_Q_set 68 = .ok (.invokestatic 114, 3) := by decide +kernel
theorem d_Q_set_71 : decode b_Q_set 71 = .ok (.invokevirtual 118, 3) := by decide +kernel
theorem d_Q_set_74 : decode b_Q_set 74 = .ok (.dload 5, 2) := by decide +kernel
theorem d_Q_set_76 : decode b_Q_set 76 = .ok (.dreturn, 1) := by decide +kernel
def f_Q_set (g : Sg) (a1 : Int32) (a2 : Int32) (a3 : UInt64) : Option ((String × Sg) ⊕ (UInt64 × Sg)) := (qs_bn (f_E_isThere g (a1)) fun r1 u2 => (if r1 = 0 then (some (.inl ("java/util/NoSuchElementException", u2))) else (qs_pb (f_Q_isBelow (a2) (16)) fun r4 => (if r4 = 0 then (some (.inl ("java/lang/IllegalArgumentException", u2))) else (qs_pb (f_Q_isNumber (a3)) fun r6 => (if r6 = 0 then (some (.inl ("java/lang/IllegalArgumentException", u2))) else (qs_bn (f_E_field u2 (a1) (a2)) fun r8 u9 => (qs_pb (f_Q_valueOf (r8)) fun r10 => (qs_pb (f_Q_eighthsOf (a3)) fun r11 => (qs_bn (f_E_put u9 (a1) (a2) (r11)) fun _ u13 => (some (.inr (r10, u13)))))))))))))
set_option maxHeartbeats 4000000 in
set_option maxRecDepth 100000 in
theorem c_Q_set (l : Launch) (hl9 : l.stackTraces = false) (dC : Nat → ClassId) (dI : Nat → Nat → Nat) (h : Nat → Nat) (c : Nat → ClassId) (sz : Nat) (sa127 : Nat) (sa134 : Nat) (g : Sg) (a1 : Int32) (a2 : Int32) (a3 : UInt64) (r0 : ((String × Sg) ⊕ (UInt64 × Sg))) (hF : f_Q_set g a1 a2 a3 = some r0) : vx_Met l y_Q_set (qs_ws y_Q_set b_Q_set 7 (some .double)) ({ frames := 6, cells := 1, slots := 6, locals := 82 } : Room) (va_Pc ([.ref (h 0), .int a1, .int a2, .double a3] : List Value) (fun U => U.heap.size = sz ∧ va_P (dC, dI) vwCl (qs_W h c g) U.heap ∧ va_K (dC, dI) vwCl (qs_T c) U ∧ va_D (fun _ => True) (qs_W h c g) ∧ qs_N U ∧ vx_Zq Bundle.tN "UNASSIGNED_STACK" Bundle.steD (va_A (qs_W h c g) sz) U U.heap ∧ vx_Zq Bundle.tN "SUPPRESSED_SENTINEL" Bundle.listD (va_A (qs_W h c g) sz) U U.heap ∧ vk_R R_Q 127 "the entity is not there" sa127 U ∧ vk_R R_Q 134 "no such field or value" sa134 U)) (va_Qd (fun (r : UInt64) (u : Sg) => r0 = .inr (r, u)) (qs_at dC dI h c (va_A (qs_W h c g) sz)) (va_A (qs_W h c g) sz)) (vx_X (fun (_ : Sg) => True) (fun E u t => (r0 = .inl (E, u) ∧ E ∈ (["java/lang/IllegalArgumentException", "java/util/NoSuchElementException"] : List String)) ∧ qs_at dC dI h c (va_A (qs_W h c g) sz) u t) (va_A (qs_W h c g) sz)) 1 6 (va_A (qs_W h c g) sz) := by
  refine vx_ofW (cc := b_Q_set) (maxL := 7) (ret := (some .double)) (by decide +kernel) rfl ?_
  intro p e s m args below meth cd s₁ B hml ht hv
  obtain ⟨rfl, hsz, hP, hK, hD0, hNs, hU, hN, hs127, hs134⟩ := hv
  have hx := B.exec
  have hb := B.bytes
  have hr := B.returns
  have hts := atoms_spec (ws := (qs_ws y_Q_set b_Q_set 7 (some .double))) B.pre
  have hg : ∀ w ∈ qs_gt, w.before _ s = true := fun w h => hts w (List.mem_cons_of_mem _ h)
  have hown : s.vm.findClass R_Q = some m.cls := findClass_of_methodNamed B.named
  have hlocks := B.notSynchronized
  subst hsz
  have hD := hD0.self (sz := s.heap.size)
  generalize hAe : va_A (qs_W h c g) s.heap.size = A at hD hU hN ⊢
  have hA : ∀ q : Nat, s.heap.size ≤ q → A q := fun q h => by rw [← hAe]; exact Or.inr h
  have hS : va_S A s.heap s.heap [] := va_S.rf
  have hl := lv_entry ([.ref (h 0), .int a1, .int a2, .double a3] : List Value) (n := 7) (Nat.le_of_ble_eq_true rfl)
  rw [lg_entry_eq]
  generalize (lg_sl ([.ref (h 0), .int a1, .int a2, .double a3] : List Value) ++ List.replicate (7 - (lg_sl ([.ref (h 0), .int a1, .int a2, .double a3] : List Value)).length) Slot.unset).toArray = ls at hl ⊢
  have hl : lv_has ls 7 [(0, .ref (h 0)), (1, .int (a1)), (2, .int (a2)), (3, .double (a3))] := hl
  unfold f_Q_set at hF
  obtain ⟨H, hHe⟩ : ∃ H, H = s.heap := ⟨_, rfl⟩
  obtain ⟨locs, hLe⟩ : ∃ L : List Loc, L = [] := ⟨_, rfl⟩
  rw [← hHe] at hP ⊢
  rw [← hLe]
  have hS : va_S A s.heap H locs := by rw [hHe, hLe]; exact hS
  refine lv_aload_n hx hb d_Q_set_0 rfl (lv_at hl 0 rfl) ?_
  refine va_get (D := (dC, dI)) (ci := 6) (v := .ref (h 1)) (C := R_Q) (T := T_Q) (N := 6) hx hb hg in_Q hown hK hP 0 rfl rfl 0 (by decide) (hg _ t_156) (fun _ h9 => h9) rfl d_Q_set_1 ?_
  refine lv_iload_n hx hb d_Q_set_4 rfl (lv_at hl 1 rfl) ?_
  obtain ⟨r1, u2, hX, hF⟩ := qs_bn_some hF
  refine qs_ci (Wd := qs_W h c) (isC := [0, 1, 2, 3, 4, 5, 6, 7, 8, 9, 10, 11, 12, 13, 14, 15, 16]) (va_runV (own := "QuakeServer") (C := "QuakeServer$Entities") (As := [.int (a1)]) (rest := []) ⟨hx, hb, hml, hown, hg⟩ (c_E_isThere l dC dI h c H.size g (a1) r1 u2 hX) (cwV 1 hg (qs_gV t_367 t_188 t_189 t_2 t_190) rfl rfl rfl (by decide +kernel) ⟨Nat.le_of_ble_eq_true rfl, Nat.le_of_ble_eq_true rfl⟩) ⟨qs_blind, va_recv hK hP (ci := 0) (q0 := 1) rfl rfl, fun U hU hW => ⟨rfl, by rw [hU], by rw [hU]; exact hP, va_K.moved hW.alike hK, hD.weaken (fun _ _ _ _ => trivial), hNs.warm hW⟩⟩ rfl rfl hl.1 rfl (lv_room (Nat.le_of_ble_eq_true rfl)) d_Q_set_5 ⟨Nat.le_of_ble_eq_true rfl, Nat.le_of_ble_eq_true rfl⟩) rfl hP hD hS hA (fun H locs hP hD hS => ?_)
  refine lv_if_ne (tgt := 21) hx hb d_Q_set_8 (by decide) (fun c3 => ?_) (fun c3 => ?_)
  · have hF := qs_neg c3 hF
    refine lv_iload_n hx hb d_Q_set_21 rfl (lv_at hl 2 rfl) ?_
    refine lv_bipush (v := 16) hx hb d_Q_set_22 (by decide) ?_
    obtain ⟨r4, hX, hF⟩ := qs_pb_some hF
    refine qs_psi (va_runS (own := "QuakeServer") (As := [.int (a2), .int (16)]) (rest := []) ⟨hx, hb, hml, hown, hg⟩ (c_Q_isBelow l H.size (a2) (16) r4 hX) (va_cwS 2 hg (qs_gS t_311 t_312 t_1 t_313) rfl rfl rfl (by decide +kernel) ⟨Nat.le_of_ble_eq_true rfl, Nat.le_of_ble_eq_true rfl⟩) ⟨qs_blind0, fun U hU hW => ⟨rfl, by rw [hU], hNs.warm hW⟩⟩ rfl rfl hl.1 rfl (lv_room (Nat.le_of_ble_eq_true rfl)) d_Q_set_24 ⟨Nat.le_of_ble_eq_true rfl, Nat.le_of_ble_eq_true rfl⟩) hP hD hS hA (fun H locs hP hS => ?_)
    refine lv_if_eq (tgt := 37) hx hb d_Q_set_27 (by decide) (fun c5 => ?_) (fun c5 => ?_)
    · have hF := qs_pos c5 hF
      have h9 := Option.some.inj hF
      exact vx_throwS (text := "no such field or value") (names := ["java/lang/RuntimeException", "java/lang/Exception"]) hx hb hl9 hown (by decide +kernel) (by decide +kernel) (hg _ t_215) (hg _ t_12) hs134 (ha_Q_65 hg hNs) hd_Q_65 hU hN hS (hl.1.trans hml.symm) d_Q_set_37 d_Q_set_40 d_Q_set_41 d_Q_set_43 d_Q_set_46 (fun x h => (ht x h).elim) (Nat.le_of_ble_eq_true rfl) (Nat.le_of_ble_eq_true rfl) (Nat.le_of_ble_eq_true rfl) (Nat.le_of_ble_eq_true rfl) hlocks (fun t hvm hz hk => ⟨u2, trivial, ⟨⟨h9.symm, by decide⟩, hP.kept (fun k q hq => hk q.1 (hP k q hq).lt), va_K.moved hvm hK, hD⟩, qs_F hS hz hk⟩) hS.2.2 (Nat.le_refl _) (Nat.le_refl _)
    · have hF := qs_neg c5 hF
      refine lv_dload_n hx hb d_Q_set_30 rfl (lv_at hl 3 rfl) ?_
      obtain ⟨r6, hX, hF⟩ := qs_pb_some hF
      refine qs_psi (va_runS (own := "QuakeServer") (As := [.double (a3)]) (rest := []) ⟨hx, hb, hml, hown, hg⟩ (c_Q_isNumber l H.size (a3) r6 hX) (va_cwS 1 hg (qs_gS t_339 t_340 t_1 t_341) rfl rfl rfl (by decide +kernel) ⟨Nat.le_of_ble_eq_true rfl, Nat.le_of_ble_eq_true rfl⟩) ⟨qs_blind0, fun U hU hW => ⟨rfl, by rw [hU], hNs.warm hW⟩⟩ rfl rfl hl.1 rfl (lv_room (Nat.le_of_ble_eq_true rfl)) d_Q_set_31 ⟨Nat.le_of_ble_eq_true rfl, Nat.le_of_ble_eq_true rfl⟩) hP hD hS hA (fun H locs hP hS => ?_)
      refine lv_if_ne (tgt := 47) hx hb d_Q_set_34 (by decide) (fun c7 => ?_) (fun c7 => ?_)
      · have hF := qs_neg c7 hF
        refine lv_aload_n hx hb d_Q_set_47 rfl (lv_at hl 0 rfl) ?_
        refine va_get (D := (dC, dI)) (ci := 6) (v := .ref (h 1)) (C := R_Q) (T := T_Q) (N := 6) hx hb hg in_Q hown hK hP 0 rfl rfl 0 (by decide) (hg _ t_156) (fun _ h9 => h9) rfl d_Q_set_48 ?_
        refine lv_iload_n hx hb d_Q_set_51 rfl (lv_at hl 1 rfl) ?_
        refine lv_iload_n hx hb d_Q_set_52 rfl (lv_at hl 2 rfl) ?_
        obtain ⟨r8, u9, hX, hF⟩ := qs_bn_some hF
        refine qs_ci (Wd := qs_W h c) (isC := [0, 1, 2, 3, 4, 5, 6, 7, 8, 9, 10, 11, 12, 13, 14, 15, 16]) (va_runV (own := "QuakeServer") (C := "QuakeServer$Entities") (As := [.int (a1), .int (a2)]) (rest := []) ⟨hx, hb, hml, hown, hg⟩ (c_E_field l dC dI h c H.size u2 (a1) (a2) r8 u9 hX) (cwV 2 hg (qs_gV t_396 t_192 t_193 t_2 t_194) rfl rfl rfl (by decide +kernel) ⟨Nat.le_of_ble_eq_true rfl, Nat.le_of_ble_eq_true rfl⟩) ⟨qs_blind, va_recv hK hP (ci := 0) (q0 := 1) rfl rfl, fun U hU hW => ⟨rfl, by rw [hU], by rw [hU]; exact hP, va_K.moved hW.alike hK, hD.weaken (fun _ _ _ _ => trivial), hNs.warm hW⟩⟩ rfl rfl hl.1 rfl (lv_room (Nat.le_of_ble_eq_true rfl)) d_Q_set_53 ⟨Nat.le_of_ble_eq_true rfl, Nat.le_of_ble_eq_true rfl⟩) rfl hP hD hS hA (fun H locs hP hD hS => ?_)
        obtain ⟨r10, hX, hF⟩ := qs_pb_some hF
        refine qs_psd (va_runS (own := "QuakeServer") (As := [.int (r8)]) (rest := []) ⟨hx, hb, hml, hown, hg⟩ (c_Q_valueOf l H.size (r8) r10 hX) (va_cwS 1 hg (qs_gS t_397 t_398 t_1 t_399) rfl rfl rfl (by decide +kernel) ⟨Nat.le_of_ble_eq_true rfl, Nat.le_of_ble_eq_true rfl⟩) ⟨qs_blind0, fun U hU hW => ⟨rfl, by rw [hU], hNs.warm hW⟩⟩ rfl rfl hl.1 rfl (lv_room (Nat.le_of_ble_eq_true rfl)) d_Q_set_56 ⟨Nat.le_of_ble_eq_true rfl, Nat.le_of_ble_eq_true rfl⟩) hP hD hS hA (fun H locs hP hS => ?_)
        refine lv_dstore (lv' := [(5, .double (r10)), (0, .ref (h 0)), (1, .int (a1)), (2, .int (a2)), (3, .double (a3))]) hx hb d_Q_set_59 hl (by decide) rfl (fun ls hl => ?_)
        refine lv_aload_n hx hb d_Q_set_61 rfl (lv_at hl 1 rfl) ?_
        refine va_get (D := (dC, dI)) (ci := 6) (v := .ref (h 1)) (C := R_Q) (T := T_Q) (N := 6) hx hb hg in_Q hown hK hP 0 rfl rfl 0 (by decide) (hg _ t_156) (fun _ h9 => h9) rfl d_Q_set_62 ?_
        refine lv_iload_n hx hb d_Q_set_65 rfl (lv_at hl 2 rfl) ?_
        refine lv_iload_n hx hb d_Q_set_66 rfl (lv_at hl 3 rfl) ?_
        refine lv_dload_n hx hb d_Q_set_67 rfl (lv_at hl 4 rfl) ?_
        obtain ⟨r11, hX, hF⟩ := qs_pb_some hF
        refine qs_psi (va_runS (own := "QuakeServer") (As := [.double (a3)]) (rest := [.int (a2), .int (a1), .ref (h 1)]) ⟨hx, hb, hml, hown, hg⟩ (c_Q_eighthsOf l H.size (a3) r11 hX) (va_cwS 1 hg (qs_gS t_350 t_351 t_1 t_352) rfl rfl rfl (by decide +kernel) ⟨Nat.le_of_ble_eq_true rfl, Nat.le_of_ble_eq_true rfl⟩) ⟨qs_blind0, fun U hU hW => ⟨rfl, by rw [hU], hNs.warm hW⟩⟩ rfl rfl hl.1 rfl (lv_room (Nat.le_of_ble_eq_true rfl)) d_Q_set_68 ⟨Nat.le_of_ble_eq_true rfl, Nat.le_of_ble_eq_true rfl⟩) hP hD hS hA (fun H locs hP hS => ?_)
        obtain ⟨r12, u13, hX, hF⟩ := qs_bn_some hF
        refine qs_cv (Wd := qs_W h c) (isC := [0, 1, 2, 3, 4, 5, 6, 7, 8, 9, 10, 11, 12, 13, 14, 15, 16]) (va_runV (own := "QuakeServer") (C := "QuakeServer$Entities") (As := [.int (a1), .int (a2), .int (r11)]) (rest := []) ⟨hx, hb, hml, hown, hg⟩ (c_E_put l dC dI h c H.size u9 (a1) (a2) (r11)  u13 hX) (cwV 3 hg (qs_gV t_354 t_355 t_356 t_2 t_357) rfl rfl rfl (by decide +kernel) ⟨Nat.le_of_ble_eq_true rfl, Nat.le_of_ble_eq_true rfl⟩) ⟨qs_blind, va_recv hK hP (ci := 0) (q0 := 1) rfl rfl, fun U hU hW => ⟨rfl, by rw [hU], by rw [hU]; exact hP, va_K.moved hW.alike hK, hD.weaken (fun _ _ _ _ => trivial), hNs.warm hW⟩⟩ rfl rfl hl.1 rfl (lv_room (Nat.le_of_ble_eq_true rfl)) d_Q_set_71 ⟨Nat.le_of_ble_eq_true rfl, Nat.le_of_ble_eq_true rfl⟩) rfl hP hD hS hA (fun H locs hP hD hS => ?_)
        refine lv_dload hx hb d_Q_set_74 (lv_at hl 0 rfl) ?_
        have h9 := Option.some.inj hF
        refine vx_ret ?_
        refine W.widen (k := 1) (n := 6) (Nat.le_of_ble_eq_true rfl) (Nat.le_of_ble_eq_true rfl) ?_
        exact W.dret (v := r10) hx hb hr (fun t ht hW => ⟨⟨r10, u13, rfl, h9.symm, by rw [ht]; exact hP, va_K.moved hW.alike hK, hD⟩, hS.F ht⟩) hS.2.2 d_Q_set_76
      · have hF := qs_pos c7 hF
        have h9 := Option.some.inj hF
        exact vx_throwS (text := "no such field or value") (names := ["java/lang/RuntimeException", "java/lang/Exception"]) hx hb hl9 hown (by decide +kernel) (by decide +kernel) (hg _ t_215) (hg _ t_12) hs134 (ha_Q_65 hg hNs) hd_Q_65 hU hN hS (hl.1.trans hml.symm) d_Q_set_37 d_Q_set_40 d_Q_set_41 d_Q_set_43 d_Q_set_46 (fun x h => (ht x h).elim) (Nat.le_of_ble_eq_true rfl) (Nat.le_of_ble_eq_true rfl) (Nat.le_of_ble_eq_true rfl) (Nat.le_of_ble_eq_true rfl) hlocks (fun t hvm hz hk => ⟨u2, trivial, ⟨⟨h9.symm, by decide⟩, hP.kept (fun k q hq => hk q.1 (hP k q hq).lt), va_K.moved hvm hK, hD⟩, qs_F hS hz hk⟩) hS.2.2 (Nat.le_refl _) (Nat.le_refl _)
  · have hF := qs_pos c3 hF
    have h9 := Option.some.inj hF
    exact qn_throwS (text := "the entity is not there") (Y9 := "java/lang/RuntimeException") (r9 := ["java/lang/Exception"]) hx hb hl9 hown (by decide +kernel) (by decide +kernel) (by decide +kernel) (hg _ t_368) (hg _ t_14) hs127 (ha_Q_129 hg hNs) hd_Q_129 hU hN hS (hl.1.trans hml.symm) d_Q_set_11 d_Q_set_14 d_Q_set_15 d_Q_set_17 d_Q_set_20 (fun x h => (ht x h).elim) (Nat.le_of_ble_eq_true rfl) (Nat.le_of_ble_eq_true rfl) (Nat.le_of_ble_eq_true rfl) (Nat.le_of_ble_eq_true rfl) hlocks (fun t hvm hz hk => ⟨u2, trivial, ⟨⟨h9.symm, by decide⟩, hP.kept (fun k q hq => hk q.1 (hP k q hq).lt), va_K.moved hvm hK, hD⟩, qs_F hS hz hk⟩) hS.2.2 (Nat.le_refl _) (Nat.le_refl _)

theorem d_Q_get_0 : decode b_Q_get 0 = .ok (.aload_n 0, 1) := by decide +kernel
theorem d_Q_get_1 : decode b_Q_get 1 = .ok (.getfield 12, 3) := by decide +kernel
theorem d_Q_get_4 : decode b_Q_get 4 = .ok (.iload_n 1, 1) := by decide +kernel
theorem d_Q_get_5 : decode b_Q_get 5 = .ok (.invokevirtual 122, 3) := by decide +kernel
theorem d_Q_get_8 : decode b_Q_get 8 = .ok (.ifCond .ne 13, 3) := by decide +kernel
theorem d_Q_get_11 : decode b_Q_get 11 = .ok (.new 125, 3) := by decide +kernel
theorem d_Q_get_14 : decode b_Q_get 14 = .ok (.dup, 1) := by decide +kernel
theorem d_Q_get_15 : decode b_Q_get 15 = .ok (.ldc 127, 2) := by decide +kernel
theorem d_Q_get_17 : decode b_Q_get 17 = .ok (.invokespecial 129, 3) := by decide +kernel
theorem d_Q_get_20 : decode b_Q_get 20 = .ok (.athrow, 1) := by decide +kernel
theorem d_Q_get_21 : decode b_Q_get 21 = .ok (.iload_n 2, 1) := by decide +kernel
theorem d_Q_get_22 : decode b_Q_get 22 = .ok (.bipush 16, 2) := by decide +kernel
theorem d_Q_get_24 : decode b_Q_get 24 = .ok (.invokestatic 83, 3) := by decide +kernel
theorem d_Q_get_27 : decode b_Q_get 27 = .ok (.ifCond .ne 13, 3) := by decide +kernel
theorem d_Q_get_30 : decode b_Q_get 30 = .ok (.new 61, 3) := by decide +kernel
theorem d_Q_get_33 : decode b_Q_get 33 = .ok (.dup, 1) := by decide +kernel
theorem d_Q_get_34 : decode b_Q_get 34 = .ok (.ldc 144, 2) := by decide +kernel
theorem d_Q_get_36 : decode b_Q_get 36 = .ok (.invokespecial 65, 3) := by decide +kernel
theorem d_Q_get_39 : decode b_Q_get 39 = .ok (.athrow, 1) := by decide +kernel
theorem d_Q_get_40 : decode b_Q_get 40 = .ok (.aload_n 0, 1) := by decide +kernel
theorem d_Q_get_41 : decode b_Q_get 41 = .ok (.getfield 12, 3) := by decide +kernel
theorem d_Q_get_44 : decode b_Q_get 44 = .ok (.iload_n 1, 1) := by decide +kernel
theorem d_Q_get_45 : decode b_Q_get 45 = .ok (.iload_n 2, 1) := by decide +kernel
theorem d_Q_get_46 : decode b_Q_get 46 = .ok (.invokevirtual 136, 3) := by decide +kernel
theorem d_Q_get_49 : decode b_Q_get 49 = .ok (.invokestatic 140, 3) := by decide +kernel
theorem d_Q_get_52 : decode b_Q_get 52 = .ok (.dreturn, 1) := by decide +kernel
def f_Q_get (g : Sg) (a1 : Int32) (a2 : Int32) : Option ((String × Sg) ⊕ (UInt64 × Sg)) := (qs_bn (f_E_isThere g (a1)) fun r1 u2 => (if r1 = 0 then (some (.inl ("java/util/NoSuchElementException", u2))) else (qs_pb (f_Q_isBelow (a2) (16)) fun r4 => (if r4 = 0 then (some (.inl ("java/lang/IllegalArgumentException", u2))) else (qs_bn (f_E_field u2 (a1) (a2)) fun r6 u7 => (qs_pb (f_Q_valueOf (r6)) fun r8 => (some (.inr (r8, u7)))))))))
set_option maxHeartbeats 4000000 in
set_option maxRecDepth 100000 in
theorem c_Q_get (l : Launch) (hl9 : l.stackTraces = false) (dC : Nat → ClassId) (dI : Nat → Nat → Nat) (h : Nat → Nat) (c : Nat → ClassId) (sz : Nat) (sa127 : Nat) (sa144 : Nat) (g : Sg) (a1 : Int32) (a2 : Int32) (r0 : ((String × Sg) ⊕ (UInt64 × Sg))) (hF : f_Q_get g a1 a2 = some r0) : vx_Met l y_Q_get (qs_ws y_Q_get b_Q_get 3 (some .double)) ({ frames := 6, cells := 1, slots := 6, locals := 82 } : Room) (va_Pc ([.ref (h 0), .int a1, .int a2] : List Value) (fun U => U.heap.size = sz ∧ va_P (dC, dI) vwCl (qs_W h c g) U.heap ∧ va_K (dC, dI) vwCl (qs_T c) U ∧ va_D (fun _ => True) (qs_W h c g) ∧ qs_N U ∧ vx_Zq Bundle.tN "UNASSIGNED_STACK" Bundle.steD (va_A (qs_W h c g) sz) U U.heap ∧ vx_Zq Bundle.tN "SUPPRESSED_SENTINEL" Bundle.listD (va_A (qs_W h c g) sz) U U.heap ∧ vk_R R_Q 127 "the entity is not there" sa127 U ∧ vk_R R_Q 144 "no such field" sa144 U)) (va_Qd (fun (r : UInt64) (u : Sg) => r0 = .inr (r, u)) (qs_at dC dI h c (va_A (qs_W h c g) sz)) (va_A (qs_W h c g) sz)) (vx_X (fun (_ : Sg) => True) (fun E u t => (r0 = .inl (E, u) ∧ E ∈ (["java/lang/IllegalArgumentException", "java/util/NoSuchElementException"] : List String)) ∧ qs_at dC dI h c (va_A (qs_W h c g) sz) u t) (va_A (qs_W h c g) sz)) 1 6 (va_A (qs_W h c g) sz) := by
  refine vx_ofW (cc := b_Q_get) (maxL := 3) (ret := (some .double)) (by decide +kernel) rfl ?_
  intro p e s m args below meth cd s₁ B hml ht hv
  obtain ⟨rfl, hsz, hP, hK, hD0, hNs, hU, hN, hs127, hs144⟩ := hv
  have hx := B.exec
  have hb := B.bytes
  have hr := B.returns
  have hts := atoms_spec (ws := (qs_ws y_Q_get b_Q_get 3 (some .double))) B.pre
  have hg : ∀ w ∈ qs_gt, w.before _ s = true := fun w h => hts w (List.mem_cons_of_mem _ h)
  have hown : s.vm.findClass R_Q = some m.cls := findClass_of_methodNamed B.named
  have hlocks := B.notSynchronized
  subst hsz
  have hD := hD0.self (sz := s.heap.size)
  generalize hAe : va_A (qs_W h c g) s.heap.size = A at hD hU hN ⊢
  have hA : ∀ q : Nat, s.heap.size ≤ q → A q := fun q h => by rw [← hAe]; exact Or.inr h
  have hS : va_S A s.heap s.heap [] := va_S.rf
  have hl := lv_entry ([.ref (h 0), .int a1, .int a2] : List Value) (n := 3) (Nat.le_of_ble_eq_true rfl)
  rw [lg_entry_eq]
  generalize (lg_sl ([.ref (h 0), .int a1, .int a2] : List Value) ++ List.replicate (3 - (lg_sl ([.ref (h 0), .int a1, .int a2] : List Value)).length) Slot.unset).toArray = ls at hl ⊢
  have hl : lv_has ls 3 [(0, .ref (h 0)), (1, .int (a1)), (2, .int (a2))] := hl
  unfold f_Q_get at hF
  obtain ⟨H, hHe⟩ : ∃ H, H = s.heap := ⟨_, rfl⟩
  obtain ⟨locs, hLe⟩ : ∃ L : List Loc, L = [] := ⟨_, rfl⟩
  rw [← hHe] at hP ⊢
  rw [← hLe]
  have hS : va_S A s.heap H locs := by rw [hHe, hLe]; exact hS
  refine lv_aload_n hx hb d_Q_get_0 rfl (lv_at hl 0 rfl) ?_
  refine va_get (D := (dC, dI)) (ci := 6) (v := .ref (h 1)) (C := R_Q) (T := T_Q) (N := 6) hx hb hg in_Q hown hK hP 0 rfl rfl 0 (by decide) (hg _ t_156) (fun _ h9 => h9) rfl d_Q_get_1 ?_
  refine lv_iload_n hx hb d_Q_get_4 rfl (lv_at hl 1 rfl) ?_
  obtain ⟨r1, u2, hX, hF⟩ := qs_bn_some hF
  refine qs_ci (Wd := qs_W h c) (isC := [0, 1, 2, 3, 4, 5, 6, 7, 8, 9, 10, 11, 12, 13, 14, 15, 16]) (va_runV (own := "QuakeServer") (C := "QuakeServer$Entities") (As := [.int (a1)]) (rest := []) ⟨hx, hb, hml, hown, hg⟩ (c_E_isThere l dC dI h c H.size g (a1) r1 u2 hX) (cwV 1 hg (qs_gV t_367 t_188 t_189 t_2 t_190) rfl rfl rfl (by decide +kernel) ⟨Nat.le_of_ble_eq_true rfl, Nat.le_of_ble_eq_true rfl⟩) ⟨qs_blind, va_recv hK hP (ci := 0) (q0 := 1) rfl rfl, fun U hU hW => ⟨rfl, by rw [hU], by rw [hU]; exact hP, va_K.moved hW.alike hK, hD.weaken (fun _ _ _ _ => trivial), hNs.warm hW⟩⟩ rfl rfl hl.1 rfl (lv_room (Nat.le_of_ble_eq_true rfl)) d_Q_get_5 ⟨Nat.le_of_ble_eq_true rfl, Nat.le_of_ble_eq_true rfl⟩) rfl hP hD hS hA (fun H locs hP hD hS => ?_)
  refine lv_if_ne (tgt := 21) hx hb d_Q_get_8 (by decide) (fun c3 => ?_) (fun c3 => ?_)
  · have hF := qs_neg c3 hF
    refine lv_iload_n hx hb d_Q_get_21 rfl (lv_at hl 2 rfl) ?_
    refine lv_bipush (v := 16) hx hb d_Q_get_22 (by decide) ?_
    obtain ⟨r4, hX, hF⟩ := qs_pb_some hF
    refine qs_psi (va_runS (own := "QuakeServer") (As := [.int (a2), .int (16)]) (rest := []) ⟨hx, hb, hml, hown, hg⟩ (c_Q_isBelow l H.size (a2) (16) r4 hX) (va_cwS 2 hg (qs_gS t_311 t_312 t_1 t_313) rfl rfl rfl (by decide +kernel) ⟨Nat.le_of_ble_eq_true rfl, Nat.le_of_ble_eq_true rfl⟩) ⟨qs_blind0, fun U hU hW => ⟨rfl, by rw [hU], hNs.warm hW⟩⟩ rfl rfl hl.1 rfl (lv_room (Nat.le_of_ble_eq_true rfl)) d_Q_get_24 ⟨Nat.le_of_ble_eq_true rfl, Nat.le_of_ble_eq_true rfl⟩) hP hD hS hA (fun H locs hP hS => ?_)
    refine lv_if_ne (tgt := 40) hx hb d_Q_get_27 (by decide) (fun c5 => ?_) (fun c5 => ?_)
    · have hF := qs_neg c5 hF
      refine lv_aload_n hx hb d_Q_get_40 rfl (lv_at hl 0 rfl) ?_
      refine va_get (D := (dC, dI)) (ci := 6) (v := .ref (h 1)) (C := R_Q) (T := T_Q) (N := 6) hx hb hg in_Q hown hK hP 0 rfl rfl 0 (by decide) (hg _ t_156) (fun _ h9 => h9) rfl d_Q_get_41 ?_
      refine lv_iload_n hx hb d_Q_get_44 rfl (lv_at hl 1 rfl) ?_
      refine lv_iload_n hx hb d_Q_get_45 rfl (lv_at hl 2 rfl) ?_
      obtain ⟨r6, u7, hX, hF⟩ := qs_bn_some hF
      refine qs_ci (Wd := qs_W h c) (isC := [0, 1, 2, 3, 4, 5, 6, 7, 8, 9, 10, 11, 12, 13, 14, 15, 16]) (va_runV (own := "QuakeServer") (C := "QuakeServer$Entities") (As := [.int (a1), .int (a2)]) (rest := []) ⟨hx, hb, hml, hown, hg⟩ (c_E_field l dC dI h c H.size u2 (a1) (a2) r6 u7 hX) (cwV 2 hg (qs_gV t_396 t_192 t_193 t_2 t_194) rfl rfl rfl (by decide +kernel) ⟨Nat.le_of_ble_eq_true rfl, Nat.le_of_ble_eq_true rfl⟩) ⟨qs_blind, va_recv hK hP (ci := 0) (q0 := 1) rfl rfl, fun U hU hW => ⟨rfl, by rw [hU], by rw [hU]; exact hP, va_K.moved hW.alike hK, hD.weaken (fun _ _ _ _ => trivial), hNs.warm hW⟩⟩ rfl rfl hl.1 rfl (lv_room (Nat.le_of_ble_eq_true rfl)) d_Q_get_46 ⟨Nat.le_of_ble_eq_true rfl, Nat.le_of_ble_eq_true rfl⟩) rfl hP hD hS hA (fun H locs hP hD hS => ?_)
      obtain ⟨r8, hX, hF⟩ := qs_pb_some hF
      refine qs_psd (va_runS (own := "QuakeServer") (As := [.int (r6)]) (rest := []) ⟨hx, hb, hml, hown, hg⟩ (c_Q_valueOf l H.size (r6) r8 hX) (va_cwS 1 hg (qs_gS t_397 t_398 t_1 t_399) rfl rfl rfl (by decide +kernel) ⟨Nat.le_of_ble_eq_true rfl, Nat.le_of_ble_eq_true rfl⟩) ⟨qs_blind0, fun U hU hW => ⟨rfl, by rw [hU], hNs.warm hW⟩⟩ rfl rfl hl.1 rfl (lv_room (Nat.le_of_ble_eq_true rfl)) d_Q_get_49 ⟨Nat.le_of_ble_eq_true rfl, Nat.le_of_ble_eq_true rfl⟩) hP hD hS hA (fun H locs hP hS => ?_)
      have h9 := Option.some.inj hF
      refine vx_ret ?_
      refine W.widen (k := 1) (n := 6) (Nat.le_of_ble_eq_true rfl) (Nat.le_of_ble_eq_true rfl) ?_
      exact W.dret (v := r8) hx hb hr (fun t ht hW => ⟨⟨r8, u7, rfl, h9.symm, by rw [ht]; exact hP, va_K.moved hW.alike hK, hD⟩, hS.F ht⟩) hS.2.2 d_Q_get_52
    · have hF := qs_pos c5 hF
      have h9 := Option.some.inj hF
      exact vx_throwS (text := "no such field") (names := ["java/lang/RuntimeException", "java/lang/Exception"]) hx hb hl9 hown (by decide +kernel) (by decide +kernel) (hg _ t_215) (hg _ t_12) hs144 (ha_Q_65 hg hNs) hd_Q_65 hU hN hS (hl.1.trans hml.symm) d_Q_get_30 d_Q_get_33 d_Q_get_34 d_Q_get_36 d_Q_get_39 (fun x h => (ht x h).elim) (Nat.le_of_ble_eq_true rfl) (Nat.le_of_ble_eq_true rfl) (Nat.le_of_ble_eq_true rfl) (Nat.le_of_ble_eq_true rfl) hlocks (fun t hvm hz hk => ⟨u2, trivial, ⟨⟨h9.symm, by decide⟩, hP.kept (fun k q hq => hk q.1 (hP k q hq).lt), va_K.moved hvm hK, hD⟩, qs_F hS hz hk⟩) hS.2.2 (Nat.le_refl _) (Nat.le_refl _)
  · have hF := qs_pos c3 hF
    have h9 := Option.some.inj hF
    exact qn_throwS (text := "the entity is not there") (Y9 := "java/lang/RuntimeException") (r9 := ["java/lang/Exception"]) hx hb hl9 hown (by decide +kernel) (by decide +kernel) (by decide +kernel) (hg _ t_368) (hg _ t_14) hs127 (ha_Q_129 hg hNs) hd_Q_129 hU hN hS (hl.1.trans hml.symm) d_Q_get_11 d_Q_get_14 d_Q_get_15 d_Q_get_17 d_Q_get_20 (fun x h => (ht x h).elim) (Nat.le_of_ble_eq_true rfl) (Nat.le_of_ble_eq_true rfl) (Nat.le_of_ble_eq_true rfl) (Nat.le_of_ble_eq_true rfl) hlocks (fun t hvm hz hk => ⟨u2, trivial, ⟨⟨h9.symm, by decide⟩, hP.kept (fun k q hq => hk q.1 (hP k q hq).lt), va_K.moved hvm hK, hD⟩, qs_F hS hz hk⟩) hS.2.2 (Nat.le_refl _) (Nat.le_refl _)

theorem d_Q_change_0 : decode b_Q_change 0 = .ok (.aload_n 0, 1) := by decide +kernel
theorem d_Q_change_1 : decode b_Q_change 1 = .ok (.getfield 53, 3) := by decide +kernel
theorem d_Q_change_4 : decode b_Q_change 4 = .ok (.iload_n 1, 1) := by decide +kernel
theorem d_Q_change_5 : decode b_Q_change 5 = .ok (.invokevirtual 178, 3) := by decide +kernel
theorem d_Q_change_8 : decode b_Q_change 8 = .ok (.istore_n 2, 1) := by decide +kernel
theorem d_Q_change_9 : decode b_Q_change 9 = .ok (.iload_n 2, 1) := by decide +kernel
theorem d_Q_change_10 : decode b_Q_change 10 = .ok (.bipush (-2), 2) := by decide +kernel
theorem d_Q_change_12 : decode b_Q_change 12 = .ok (.if_icmp .ne 13, 3) := by decide +kernel
theorem d_Q_change_15 : decode b_Q_change 15 = .ok (.new 125, 3) := by decide +kernel
theorem d_Q_change_18 : decode b_Q_change 18 = .ok (.dup, 1) := by decide +kernel
theorem d_Q_change_19 : decode b_Q_change 19 = .ok (.ldc 181, 2) := by decide +kernel
theorem d_Q_change_21 : decode b_Q_change 21 = .ok (.invokespecial 129, 3) := by decide +kernel
theorem d_Q_change_24 : decode b_Q_change 24 = .ok (.athrow, 1) := by decide +kernel
theorem d_Q_change_25 : decode b_Q_change 25 = .ok (.iload_n 2, 1) := by decide +kernel
theorem d_Q_change_26 : decode b_Q_change 26 = .ok (.ireturn, 1) := by decide +kernel
def f_Q_change (g : Sg) (a1 : Int32) : Option ((String × Sg) ⊕ (Int32 × Sg)) := (qs_bn (f_L_difference g (a1)) fun r1 u2 => (if r1 = (-2) then (some (.inl ("java/util/NoSuchElementException", u2))) else (some (.inr (r1, u2)))))
set_option maxHeartbeats 4000000 in
set_option maxRecDepth 100000 in
theorem c_Q_change (l : Launch) (hl9 : l.stackTraces = false) (dC : Nat → ClassId) (dI : Nat → Nat → Nat) (h : Nat → Nat) (c : Nat → ClassId) (sz : Nat) (sa181 : Nat) (g : Sg) (a1 : Int32) (r0 : ((String × Sg) ⊕ (Int32 × Sg))) (hF : f_Q_change g a1 = some r0) : vx_Met l y_Q_change (qs_ws y_Q_change b_Q_change 3 (some .int)) ({ frames := 6, cells := 1, slots := 6, locals := 82 } : Room) (va_Pc ([.ref (h 0), .int a1] : List Value) (fun U => U.heap.size = sz ∧ va_P (dC, dI) vwCl (qs_W h c g) U.heap ∧ va_K (dC, dI) vwCl (qs_T c) U ∧ va_D (fun _ => True) (qs_W h c g) ∧ qs_N U ∧ vx_Zq Bundle.tN "UNASSIGNED_STACK" Bundle.steD (va_A (qs_W h c g) sz) U U.heap ∧ vx_Zq Bundle.tN "SUPPRESSED_SENTINEL" Bundle.listD (va_A (qs_W h c g) sz) U U.heap ∧ vk_R R_Q 181 "there is no such change" sa181 U)) (va_Qi (fun (r : Int32) (u : Sg) => r0 = .inr (r, u)) (qs_at dC dI h c (va_A (qs_W h c g) sz)) (va_A (qs_W h c g) sz)) (vx_X (fun (_ : Sg) => True) (fun E u t => (r0 = .inl (E, u) ∧ E ∈ (["java/util/NoSuchElementException"] : List String)) ∧ qs_at dC dI h c (va_A (qs_W h c g) sz) u t) (va_A (qs_W h c g) sz)) 1 6 (va_A (qs_W h c g) sz) := by
  refine vx_ofW (cc := b_Q_change) (maxL := 3) (ret := (some .int)) (by decide +kernel) rfl ?_
  intro p e s m args below meth cd s₁ B hml ht hv
  obtain ⟨rfl, hsz, hP, hK, hD0, hNs, hU, hN, hs181⟩ := hv
  have hx := B.exec
  have hb := B.bytes
  have hr := B.returns
  have hts := atoms_spec (ws := (qs_ws y_Q_change b_Q_change 3 (some .int))) B.pre
  have hg : ∀ w ∈ qs_gt, w.before _ s = true := fun w h => hts w (List.mem_cons_of_mem _ h)
  have hown : s.vm.findClass R_Q = some m.cls := findClass_of_methodNamed B.named
  have hlocks := B.notSynchronized
  subst hsz
  have hD := hD0.self (sz := s.heap.size)
  generalize hAe : va_A (qs_W h c g) s.heap.size = A at hD hU hN ⊢
  have hA : ∀ q : Nat, s.heap.size ≤ q → A q := fun q h => by rw [← hAe]; exact Or.inr h
  have hS : va_S A s.heap s.heap [] := va_S.rf
  have hl := lv_entry ([.ref (h 0), .int a1] : List Value) (n := 3) (Nat.le_of_ble_eq_true rfl)
  rw [lg_entry_eq]
  generalize (lg_sl ([.ref (h 0), .int a1] : List Value) ++ List.replicate (3 - (lg_sl ([.ref (h 0), .int a1] : List Value)).length) Slot.unset).toArray = ls at hl ⊢
  have hl : lv_has ls 3 [(0, .ref (h 0)), (1, .int (a1))] := hl
  unfold f_Q_change at hF
  obtain ⟨H, hHe⟩ : ∃ H, H = s.heap := ⟨_, rfl⟩
  obtain ⟨locs, hLe⟩ : ∃ L : List Loc, L = [] := ⟨_, rfl⟩
  rw [← hHe] at hP ⊢
  rw [← hLe]
  have hS : va_S A s.heap H locs := by rw [hHe, hLe]; exact hS
  refine lv_aload_n hx hb d_Q_change_0 rfl (lv_at hl 0 rfl) ?_
  refine va_get (D := (dC, dI)) (ci := 6) (v := .ref (h 6)) (C := R_Q) (T := T_Q) (N := 6) hx hb hg in_Q hown hK hP 0 rfl rfl 5 (by decide) (hg _ t_161) (fun _ h9 => h9) rfl d_Q_change_1 ?_
  refine lv_iload_n hx hb d_Q_change_4 rfl (lv_at hl 1 rfl) ?_
  obtain ⟨r1, u2, hX, hF⟩ := qs_bn_some hF
  refine qs_ci (Wd := qs_W h c) (isC := [0, 1, 2, 3, 4, 5, 6, 7, 8, 9, 10, 11, 12, 13, 14, 15, 16]) (va_runV (own := "QuakeServer") (C := "QuakeServer$LastMessage") (As := [.int (a1)]) (rest := []) ⟨hx, hb, hml, hown, hg⟩ (c_L_difference l dC dI h c H.size g (a1) r1 u2 hX) (cwV 1 hg (qs_gV t_599 t_600 t_601 t_7 t_602) rfl rfl rfl (by decide +kernel) ⟨Nat.le_of_ble_eq_true rfl, Nat.le_of_ble_eq_true rfl⟩) ⟨qs_blind, va_recv hK hP (ci := 5) (q0 := 6) rfl rfl, fun U hU hW => ⟨rfl, by rw [hU], by rw [hU]; exact hP, va_K.moved hW.alike hK, hD.weaken (fun _ _ _ _ => trivial), hNs.warm hW⟩⟩ rfl rfl hl.1 rfl (lv_room (Nat.le_of_ble_eq_true rfl)) d_Q_change_5 ⟨Nat.le_of_ble_eq_true rfl, Nat.le_of_ble_eq_true rfl⟩) rfl hP hD hS hA (fun H locs hP hD hS => ?_)
  refine lv_istore_n (lv' := [(2, .int (r1)), (0, .ref (h 0)), (1, .int (a1))]) hx hb d_Q_change_8 rfl hl (by decide) rfl (fun ls hl => ?_)
  refine lv_iload_n hx hb d_Q_change_9 rfl (lv_at hl 0 rfl) ?_
  refine lv_bipush (v := (-2)) hx hb d_Q_change_10 (by decide) ?_
  refine lv_icmp_ne (tgt := 25) hx hb d_Q_change_12 (by decide) (fun c3 => ?_) (fun c3 => ?_)
  · have hF := qs_neg c3 hF
    refine lv_iload_n hx hb d_Q_change_25 rfl (lv_at hl 0 rfl) ?_
    have h9 := Option.some.inj hF
    refine vx_ret ?_
    refine W.widen (k := 1) (n := 6) (Nat.le_of_ble_eq_true rfl) (Nat.le_of_ble_eq_true rfl) ?_
    exact W.iret (v := r1) hx hb hr (fun t ht hW => ⟨⟨r1, u2, rfl, h9.symm, by rw [ht]; exact hP, va_K.moved hW.alike hK, hD⟩, hS.F ht⟩) hS.2.2 d_Q_change_26
  · have hF := qs_pos c3 hF
    have h9 := Option.some.inj hF
    exact qn_throwS (text := "there is no such change") (Y9 := "java/lang/RuntimeException") (r9 := ["java/lang/Exception"]) hx hb hl9 hown (by decide +kernel) (by decide +kernel) (by decide +kernel) (hg _ t_368) (hg _ t_14) hs181 (ha_Q_129 hg hNs) hd_Q_129 hU hN hS (hl.1.trans hml.symm) d_Q_change_15 d_Q_change_18 d_Q_change_19 d_Q_change_21 d_Q_change_24 (fun x h => (ht x h).elim) (Nat.le_of_ble_eq_true rfl) (Nat.le_of_ble_eq_true rfl) (Nat.le_of_ble_eq_true rfl) (Nat.le_of_ble_eq_true rfl) hlocks (fun t hvm hz hk => ⟨u2, trivial, ⟨⟨h9.symm, by decide⟩, hP.kept (fun k q hq => hk q.1 (hP k q hq).lt), va_K.moved hvm hK, hD⟩, qs_F hS hz hk⟩) hS.2.2 (Nat.le_refl _) (Nat.le_refl _)
