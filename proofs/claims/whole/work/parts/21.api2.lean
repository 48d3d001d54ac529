theorem d_Q_setGlobal_0 : decode b_Q_setGlobal 0 = .ok (.iload_n 1, 1) := by decide +kernel
theorem d_Q_setGlobal_1 : decode b_Q_setGlobal 1 = .ok (.bipush 24, 2) := by decide +kernel
theorem d_Q_setGlobal_3 : decode b_Q_setGlobal 3 = .ok (.invokestatic 83, 3) := by decide +kernel
theorem d_Q_setGlobal_6 : decode b_Q_setGlobal 6 = .ok (.ifCond .eq 15, 3) := by decide +kernel
theorem d_Q_setGlobal_9 : decode b_Q_setGlobal 9 = .ok (.iload_n 2, 1) := by decide +kernel
theorem d_Q_setGlobal_10 : decode b_Q_setGlobal 10 = .ok (.ldc 146, 2) := by decide +kernel
theorem d_Q_setGlobal_12 : decode b_Q_setGlobal 12 = .ok (.if_icmp .lt 9, 3) := by decide +kernel
theorem d_Q_setGlobal_15 : decode b_Q_setGlobal 15 = .ok (.iload_n 2, 1) := by decide +kernel
theorem d_Q_setGlobal_16 : decode b_Q_setGlobal 16 = .ok (.ldc 147, 2) := by decide +kernel
theorem d_Q_setGlobal_18 : decode b_Q_setGlobal 18 = .ok (.if_icmp .le 13, 3) := by decide +kernel
theorem d_Q_setGlobal_21 : decode b_Q_setGlobal 21 = .ok (.new 61, 3) := by decide +kernel
theorem d_Q_setGlobal_24 : decode b_Q_setGlobal 24 = .ok (.dup, 1) := by decide +kernel
theorem d_Q_setGlobal_25 : decode b_Q_setGlobal 25 = .ok (.ldc 148, 2) := by decide +kernel
theorem d_Q_setGlobal_27 : decode b_Q_setGlobal 27 = .ok (.invokespecial 65, 3) := by decide +kernel
theorem d_Q_setGlobal_30 : decode b_Q_setGlobal 30 = .ok (.athrow, 1) := by decide +kernel
theorem d_Q_setGlobal_31 : decode b_Q_setGlobal 31 = .ok (.aload_n 0, 1) := by decide +kernel
theorem d_Q_setGlobal_32 : decode b_Q_setGlobal 32 = .ok (.getfield 35, 3) := by decide +kernel
theorem d_Q_setGlobal_35 : decode b_Q_setGlobal 35 = .ok (.getfield 150, 3) := by decide +kernel
theorem d_Q_setGlobal_38 : decode b_Q_setGlobal 38 = .ok (.iload_n 1, 1) := by decide +kernel
theorem d_Q_setGlobal_39 : decode b_Q_setGlobal 39 = .ok (.iaload, 1) := by decide +kernel
theorem d_Q_setGlobal_40 : decode b_Q_setGlobal 40 = .ok (.istore_n 3, 1) := by decide +kernel
theorem d_Q_setGlobal_41 : decode b_Q_setGlobal 41 = .ok (.aload_n 0, 1) := by decide +kernel
theorem d_Q_setGlobal_42 : decode b_Q_setGlobal 42 = .ok (.getfield 35, 3) := by decide +kernel
theorem d_Q_setGlobal_45 : decode b_Q_setGlobal 45 = .ok (.getfield 150, 3) := by decide +kernel
theorem d_Q_setGlobal_48 : decode b_Q_setGlobal 48 = .ok (.iload_n 1, 1) := by decide +kernel
theorem d_Q_setGlobal_49 : decode b_Q_setGlobal 49 = .ok (.iload_n 2, 1) := by decide +kernel
theorem d_Q_setGlobal_50 : decode b_Q_setGlobal 50 = .ok (.iastore, 1) := by decide +kernel
theorem d_Q_setGlobal_51 : decode b_Q_setGlobal 51 = .ok (.iload_n 3, 1) := by decide +kernel
theorem d_Q_setGlobal_52 : decode b_Q_setGlobal 52 = .ok (.ireturn, 1) := by decide +kernel
def f_Q_setGlobal (g : Sg) (a1 : Int32) (a2 : Int32) : Option ((String × Sg) ⊕ (Int32 × Sg)) := (qs_pb (f_Q_isBelow (a1) (24)) fun r1 => (if r1 = 0 then (some (.inl ("java/lang/IllegalArgumentException", g))) else (if a2 < (-131072) then (some (.inl ("java/lang/IllegalArgumentException", g))) else (if a2 ≤ 131072 then (qs_in (a1) 24 (qs_in (a1) 24 (qs_st (qs_a g 13 a1.toNatClampNeg (a2)) fun u7 => (some (.inr (g 13 a1.toNatClampNeg, u7)))))) else (some (.inl ("java/lang/IllegalArgumentException", g)))))))
set_option maxHeartbeats 4000000 in
set_option maxRecDepth 100000 in
theorem c_Q_setGlobal (l : Launch) (hl9 : l.stackTraces = false) (dC : Nat → ClassId) (dI : Nat → Nat → Nat) (h : Nat → Nat) (c : Nat → ClassId) (sz : Nat) (sa148 : Nat) (g : Sg) (a1 : Int32) (a2 : Int32) (r0 : ((String × Sg) ⊕ (Int32 × Sg))) (hF : f_Q_setGlobal g a1 a2 = some r0) : vx_Met l y_Q_setGlobal (qs_ws y_Q_setGlobal b_Q_setGlobal 4 (some .int)) ({ frames := 6, cells := 1, slots := 6, locals := 82 } : Room) (va_Pc ([.ref (h 0), .int a1, .int a2] : List Value) (fun U => U.heap.size = sz ∧ va_P (dC, dI) vwCl (qs_W h c g) U.heap ∧ va_K (dC, dI) vwCl (qs_T c) U ∧ va_D (fun _ => True) (qs_W h c g) ∧ qs_N U ∧ vx_Zq Bundle.tN "UNASSIGNED_STACK" Bundle.steD (va_A (qs_W h c g) sz) U U.heap ∧ vx_Zq Bundle.tN "SUPPRESSED_SENTINEL" Bundle.listD (va_A (qs_W h c g) sz) U U.heap ∧ vk_R R_Q 148 "no such global or number" sa148 U)) (va_Qi (fun (r : Int32) (u : Sg) => r0 = .inr (r, u)) (qs_at dC dI h c (va_A (qs_W h c g) sz)) (va_A (qs_W h c g) sz)) (vx_X (fun (_ : Sg) => True) (fun E u t => (r0 = .inl (E, u) ∧ E ∈ (["java/lang/IllegalArgumentException"] : List String)) ∧ qs_at dC dI h c (va_A (qs_W h c g) sz) u t) (va_A (qs_W h c g) sz)) 1 6 (va_A (qs_W h c g) sz) := by
  refine vx_ofW (cc := b_Q_setGlobal) (maxL := 4) (ret := (some .int)) (by decide +kernel) rfl ?_
  intro p e s m args below meth cd s₁ B hml ht hv
  obtain ⟨rfl, hsz, hP, hK, hD0, hNs, hU, hN, hs148⟩ := hv
  have hx := B.exec
  have hb := B.bytes
  have hr := B.returns
  have hts := atoms_spec (ws := (qs_ws y_Q_setGlobal b_Q_setGlobal 4 (some .int))) B.pre
  have hg : ∀ w ∈ qs_gt, w.before _ s = true := fun w h => hts w (List.mem_cons_of_mem _ h)
  have hown : s.vm.findClass R_Q = some m.cls := findClass_of_methodNamed B.named
  have hlocks := B.notSynchronized
  subst hsz
  have hD := hD0.self (sz := s.heap.size)
  generalize hAe : va_A (qs_W h c g) s.heap.size = A at hD hU hN ⊢
  have hA : ∀ q : Nat, s.heap.size ≤ q → A q := fun q h => by rw [← hAe]; exact Or.inr h
  have hS : va_S A s.heap s.heap [] := va_S.rf
  have hl := lv_entry ([.ref (h 0), .int a1, .int a2] : List Value) (n := 4) (Nat.le_of_ble_eq_true rfl)
  rw [lg_entry_eq]
  generalize (lg_sl ([.ref (h 0), .int a1, .int a2] : List Value) ++ List.replicate (4 - (lg_sl ([.ref (h 0), .int a1, .int a2] : List Value)).length) Slot.unset).toArray = ls at hl ⊢
  have hl : lv_has ls 4 [(0, .ref (h 0)), (1, .int (a1)), (2, .int (a2))] := hl
  unfold f_Q_setGlobal at hF
  obtain ⟨H, hHe⟩ : ∃ H, H = s.heap := ⟨_, rfl⟩
  obtain ⟨locs, hLe⟩ : ∃ L : List Loc, L = [] := ⟨_, rfl⟩
  rw [← hHe] at hP ⊢
  rw [← hLe]
  have hS : va_S A s.heap H locs := by rw [hHe, hLe]; exact hS
  refine lv_iload_n hx hb d_Q_setGlobal_0 rfl (lv_at hl 1 rfl) ?_
  refine lv_bipush (v := 24) hx hb d_Q_setGlobal_1 (by decide) ?_
  obtain ⟨r1, hX, hF⟩ := qs_pb_some hF
  refine qs_psi (va_runS (own := "QuakeServer") (As := [.int (a1), .int (24)]) (rest := []) ⟨hx, hb, hml, hown, hg⟩ (c_Q_isBelow l H.size (a1) (24) r1 hX) (va_cwS 2 hg (qs_gS t_311 t_312 t_1 t_313) rfl rfl rfl (by decide +kernel) ⟨Nat.le_of_ble_eq_true rfl, Nat.le_of_ble_eq_true rfl⟩) ⟨qs_blind0, fun U hU hW => ⟨rfl, by rw [hU], hNs.warm hW⟩⟩ rfl rfl hl.1 rfl (lv_room (Nat.le_of_ble_eq_true rfl)) d_Q_setGlobal_3 ⟨Nat.le_of_ble_eq_true rfl, Nat.le_of_ble_eq_true rfl⟩) hP hD hS hA (fun H locs hP hS => ?_)
  refine lv_if_eq (tgt := 21) hx hb d_Q_setGlobal_6 (by decide) (fun c2 => ?_) (fun c2 => ?_)
  · have hF := qs_pos c2 hF
    have h9 := Option.some.inj hF
    exact vx_throwS (text := "no such global or number") (names := ["java/lang/RuntimeException", "java/lang/Exception"]) hx hb hl9 hown (by decide +kernel) (by decide +kernel) (hg _ t_215) (hg _ t_12) hs148 (ha_Q_65 hg hNs) hd_Q_65 hU hN hS (hl.1.trans hml.symm) d_Q_setGlobal_21 d_Q_setGlobal_24 d_Q_setGlobal_25 d_Q_setGlobal_27 d_Q_setGlobal_30 (fun x h => (ht x h).elim) (Nat.le_of_ble_eq_true rfl) (Nat.le_of_ble_eq_true rfl) (Nat.le_of_ble_eq_true rfl) (Nat.le_of_ble_eq_true rfl) hlocks (fun t hvm hz hk => ⟨g, trivial, ⟨⟨h9.symm, by decide⟩, hP.kept (fun k q hq => hk q.1 (hP k q hq).lt), va_K.moved hvm hK, hD⟩, qs_F hS hz hk⟩) hS.2.2 (Nat.le_refl _) (Nat.le_refl _)
  · have hF := qs_neg c2 hF
    refine lv_iload_n hx hb d_Q_setGlobal_9 rfl (lv_at hl 2 rfl) ?_
    refine lv_ldc (v := (-131072)) hx hb hown (hg _ t_415) d_Q_setGlobal_10 ?_
    refine lv_icmp_lt (tgt := 21) hx hb d_Q_setGlobal_12 (by decide) (fun c3 => ?_) (fun c3 => ?_)
    · have hF := qs_pos c3 hF
      have h9 := Option.some.inj hF
      exact vx_throwS (text := "no such global or number") (names := ["java/lang/RuntimeException", "java/lang/Exception"]) hx hb hl9 hown (by decide +kernel) (by decide +kernel) (hg _ t_215) (hg _ t_12) hs148 (ha_Q_65 hg hNs) hd_Q_65 hU hN hS (hl.1.trans hml.symm) d_Q_setGlobal_21 d_Q_setGlobal_24 d_Q_setGlobal_25 d_Q_setGlobal_27 d_Q_setGlobal_30 (fun x h => (ht x h).elim) (Nat.le_of_ble_eq_true rfl) (Nat.le_of_ble_eq_true rfl) (Nat.le_of_ble_eq_true rfl) (Nat.le_of_ble_eq_true rfl) hlocks (fun t hvm hz hk => ⟨g, trivial, ⟨⟨h9.symm, by decide⟩, hP.kept (fun k q hq => hk q.1 (hP k q hq).lt), va_K.moved hvm hK, hD⟩, qs_F hS hz hk⟩) hS.2.2 (Nat.le_refl _) (Nat.le_refl _)
    · have hF := qs_neg c3 hF
      refine lv_iload_n hx hb d_Q_setGlobal_15 rfl (lv_at hl 2 rfl) ?_
      refine lv_ldc (v := 131072) hx hb hown (hg _ t_416) d_Q_setGlobal_16 ?_
      refine lv_icmp_le (tgt := 31) hx hb d_Q_setGlobal_18 (by decide) (fun c4 => ?_) (fun c4 => ?_)
      · have hF := qs_pos c4 hF
        refine lv_aload_n hx hb d_Q_setGlobal_31 rfl (lv_at hl 0 rfl) ?_
        refine va_get (D := (dC, dI)) (ci := 6) (v := .ref (h 4)) (C := R_Q) (T := T_Q) (N := 6) hx hb hg in_Q hown hK hP 0 rfl rfl 3 (by decide) (hg _ t_159) (fun _ h9 => h9) rfl d_Q_setGlobal_32 ?_
        refine va_getN (D := (dC, dI)) (ci := 3) (v := .ref (h 13)) (C := R_M) (T := T_M) (N := 11) hx hb hg in_M hown hK hP 4 rfl rfl 2 (by decide) (va_Nw.use rfl (nF_3 hNs)) (fun _ h9 => h9) rfl d_Q_setGlobal_35 ?_
        refine lv_iload_n hx hb d_Q_setGlobal_38 rfl (lv_at hl 1 rfl) ?_
        obtain ⟨c5, hF⟩ := qs_in_some hF
        refine va_iald hx hb hK hP 13 6 rfl rfl c5 d_Q_setGlobal_39 ?_
        refine lv_istore_n (lv' := [(3, .int (g 13 a1.toNatClampNeg)), (0, .ref (h 0)), (1, .int (a1)), (2, .int (a2))]) hx hb d_Q_setGlobal_40 rfl hl (by decide) rfl (fun ls hl => ?_)
        refine lv_aload_n hx hb d_Q_setGlobal_41 rfl (lv_at hl 1 rfl) ?_
        refine va_get (D := (dC, dI)) (ci := 6) (v := .ref (h 4)) (C := R_Q) (T := T_Q) (N := 6) hx hb hg in_Q hown hK hP 0 rfl rfl 3 (by decide) (hg _ t_159) (fun _ h9 => h9) rfl d_Q_setGlobal_42 ?_
        refine va_getN (D := (dC, dI)) (ci := 3) (v := .ref (h 13)) (C := R_M) (T := T_M) (N := 11) hx hb hg in_M hown hK hP 4 rfl rfl 2 (by decide) (va_Nw.use rfl (nF_3 hNs)) (fun _ h9 => h9) rfl d_Q_setGlobal_45 ?_
        refine lv_iload_n hx hb d_Q_setGlobal_48 rfl (lv_at hl 2 rfl) ?_
        refine lv_iload_n hx hb d_Q_setGlobal_49 rfl (lv_at hl 3 rfl) ?_
        obtain ⟨c6, hF⟩ := qs_in_some hF
        refine va_iast hx hb hK hP hD hS 13 6 rfl rfl c6 d_Q_setGlobal_50 (fun H locs hP hD hS => ?_)
        obtain ⟨u7, hu7, hF⟩ := qs_st_some hF
        have hP : va_P (dC, dI) vwCl (qs_W h c u7) H := by rw [hu7]; exact hP
        have hD : va_D A (qs_W h c u7) := by rw [hu7]; exact hD
        clear hu7
        refine lv_iload_n hx hb d_Q_setGlobal_51 rfl (lv_at hl 0 rfl) ?_
        have h9 := Option.some.inj hF
        refine vx_ret ?_
        refine W.widen (k := 1) (n := 6) (Nat.le_of_ble_eq_true rfl) (Nat.le_of_ble_eq_true rfl) ?_
        exact W.iret (v := g 13 a1.toNatClampNeg) hx hb hr (fun t ht hW => ⟨⟨(g 13 a1.toNatClampNeg), u7, rfl, h9.symm, by rw [ht]; exact hP, va_K.moved hW.alike hK, hD⟩, hS.F ht⟩) hS.2.2 d_Q_setGlobal_52
      · have hF := qs_neg c4 hF
        have h9 := Option.some.inj hF
        exact vx_throwS (text := "no such global or number") (names := ["java/lang/RuntimeException", "java/lang/Exception"]) hx hb hl9 hown (by decide +kernel) (by decide +kernel) (hg _ t_215) (hg _ t_12) hs148 (ha_Q_65 hg hNs) hd_Q_65 hU hN hS (hl.1.trans hml.symm) d_Q_setGlobal_21 d_Q_setGlobal_24 d_Q_setGlobal_25 d_Q_setGlobal_27 d_Q_setGlobal_30 (fun x h => (ht x h).elim) (Nat.le_of_ble_eq_true rfl) (Nat.le_of_ble_eq_true rfl) (Nat.le_of_ble_eq_true rfl) (Nat.le_of_ble_eq_true rfl) hlocks (fun t hvm hz hk => ⟨g, trivial, ⟨⟨h9.symm, by decide⟩, hP.kept (fun k q hq => hk q.1 (hP k q hq).lt), va_K.moved hvm hK, hD⟩, qs_F hS hz hk⟩) hS.2.2 (Nat.le_refl _) (Nat.le_refl _)

theorem d_Q_global_0 : decode b_Q_global 0 = .ok (.iload_n 1, 1) := by decide +kernel
theorem d_Q_global_1 : decode b_Q_global 1 = .ok (.bipush 24, 2) := by decide +kernel
theorem d_Q_global_3 : decode b_Q_global 3 = .ok (.invokestatic 83, 3) := by decide +kernel
theorem d_Q_global_6 : decode b_Q_global 6 = .ok (.ifCond .ne 13, 3) := by decide +kernel
theorem d_Q_global_9 : decode b_Q_global 9 = .ok (.new 61, 3) := by decide +kernel
theorem d_Q_global_12 : decode b_Q_global 12 = .ok (.dup, 1) := by decide +kernel
theorem d_Q_global_13 : decode b_Q_global 13 = .ok (.ldc 154, 2) := by decide +kernel
theorem d_Q_global_15 : decode b_Q_global 15 = .ok (.invokespecial 65, 3) := by decide +kernel
theorem d_Q_global_18 : decode b_Q_global 18 = .ok (.athrow, 1) := by decide +kernel
theorem d_Q_global_19 : decode b_Q_global 19 = .ok (.aload_n 0, 1) := by decide +kernel
theorem d_Q_global_20 : decode b_Q_global 20 = .ok (.getfield 35, 3) := by decide +kernel
theorem d_Q_global_23 : decode b_Q_global 23 = .ok (.getfield 150, 3) := by decide +kernel
theorem d_Q_global_26 : decode b_Q_global 26 = .ok (.iload_n 1, 1) := by decide +kernel
theorem d_Q_global_27 : decode b_Q_global 27 = .ok (.iaload, 1) := by decide +kernel
theorem d_Q_global_28 : decode b_Q_global 28 = .ok (.ireturn, 1) := by decide +kernel
def f_Q_global (g : Sg) (a1 : Int32) : Option ((String × Sg) ⊕ (Int32 × Sg)) := (qs_pb (f_Q_isBelow (a1) (24)) fun r1 => (if r1 = 0 then (some (.inl ("java/lang/IllegalArgumentException", g))) else (qs_in (a1) 24 (some (.inr (g 13 a1.toNatClampNeg, g))))))
set_option maxHeartbeats 4000000 in
set_option maxRecDepth 100000 in
theorem c_Q_global (l : Launch) (hl9 : l.stackTraces = false) (dC : Nat → ClassId) (dI : Nat → Nat → Nat) (h : Nat → Nat) (c : Nat → ClassId) (sz : Nat) (sa154 : Nat) (g : Sg) (a1 : Int32) (r0 : ((String × Sg) ⊕ (Int32 × Sg))) (hF : f_Q_global g a1 = some r0) : vx_Met l y_Q_global (qs_ws y_Q_global b_Q_global 2 (some .int)) ({ frames := 6, cells := 1, slots := 6, locals := 82 } : Room) (va_Pc ([.ref (h 0), .int a1] : List Value) (fun U => U.heap.size = sz ∧ va_P (dC, dI) vwCl (qs_W h c g) U.heap ∧ va_K (dC, dI) vwCl (qs_T c) U ∧ va_D (fun _ => True) (qs_W h c g) ∧ qs_N U ∧ vx_Zq Bundle.tN "UNASSIGNED_STACK" Bundle.steD (va_A (qs_W h c g) sz) U U.heap ∧ vx_Zq Bundle.tN "SUPPRESSED_SENTINEL" Bundle.listD (va_A (qs_W h c g) sz) U U.heap ∧ vk_R R_Q 154 "no such global" sa154 U)) (va_Qi (fun (r : Int32) (u : Sg) => r0 = .inr (r, u)) (qs_at dC dI h c (va_A (qs_W h c g) sz)) (va_A (qs_W h c g) sz)) (vx_X (fun (_ : Sg) => True) (fun E u t => (r0 = .inl (E, u) ∧ E ∈ (["java/lang/IllegalArgumentException"] : List String)) ∧ qs_at dC dI h c (va_A (qs_W h c g) sz) u t) (va_A (qs_W h c g) sz)) 1 6 (va_A (qs_W h c g) sz) := by
  refine vx_ofW (cc := b_Q_global) (maxL := 2) (ret := (some .int)) (by decide +kernel) rfl ?_
  intro p e s m args below meth cd s₁ B hml ht hv
  obtain ⟨rfl, hsz, hP, hK, hD0, hNs, hU, hN, hs154⟩ := hv
  have hx := B.exec
  have hb := B.bytes
  have hr := B.returns
  have hts := atoms_spec (ws := (qs_ws y_Q_global b_Q_global 2 (some .int))) B.pre
  have hg : ∀ w ∈ qs_gt, w.before _ s = true := fun w h => hts w (List.mem_cons_of_mem _ h)
  have hown : s.vm.findClass R_Q = some m.cls := findClass_of_methodNamed B.named
  have hlocks := B.notSynchronized
  subst hsz
  have hD := hD0.self (sz := s.heap.size)
  generalize hAe : va_A (qs_W h c g) s.heap.size = A at hD hU hN ⊢
  have hA : ∀ q : Nat, s.heap.size ≤ q → A q := fun q h => by rw [← hAe]; exact Or.inr h
  have hS : va_S A s.heap s.heap [] := va_S.rf
  have hl := lv_entry ([.ref (h 0), .int a1] : List Value) (n := 2) (Nat.le_of_ble_eq_true rfl)
  rw [lg_entry_eq]
  generalize (lg_sl ([.ref (h 0), .int a1] : List Value) ++ List.replicate (2 - (lg_sl ([.ref (h 0), .int a1] : List Value)).length) Slot.unset).toArray = ls at hl ⊢
  have hl : lv_has ls 2 [(0, .ref (h 0)), (1, .int (a1))] := hl
  unfold f_Q_global at hF
  obtain ⟨H, hHe⟩ : ∃ H, H = s.heap := ⟨_, rfl⟩
  obtain ⟨locs, hLe⟩ : ∃ L : List Loc, L = [] := ⟨_, rfl⟩
  rw [← hHe] at hP ⊢
  rw [← hLe]
  have hS : va_S A s.heap H locs := by rw [hHe, hLe]; exact hS
  refine lv_iload_n hx hb d_Q_global_0 rfl (lv_at hl 1 rfl) ?_
  refine lv_bipush (v := 24) hx hb d_Q_global_1 (by decide) ?_
  obtain ⟨r1, hX, hF⟩ := qs_pb_some hF
  refine qs_psi (va_runS (own := "QuakeServer") (As := [.int (a1), .int (24)]) (rest := []) ⟨hx, hb, hml, hown, hg⟩ (c_Q_isBelow l H.size (a1) (24) r1 hX) (va_cwS 2 hg (qs_gS t_311 t_312 t_1 t_313) rfl rfl rfl (by decide +kernel) ⟨Nat.le_of_ble_eq_true rfl, Nat.le_of_ble_eq_true rfl⟩) ⟨qs_blind0, fun U hU hW => ⟨rfl, by rw [hU], hNs.warm hW⟩⟩ rfl rfl hl.1 rfl (lv_room (Nat.le_of_ble_eq_true rfl)) d_Q_global_3 ⟨Nat.le_of_ble_eq_true rfl, Nat.le_of_ble_eq_true rfl⟩) hP hD hS hA (fun H locs hP hS => ?_)
  refine lv_if_ne (tgt := 19) hx hb d_Q_global_6 (by decide) (fun c2 => ?_) (fun c2 => ?_)
  · have hF := qs_neg c2 hF
    refine lv_aload_n hx hb d_Q_global_19 rfl (lv_at hl 0 rfl) ?_
    refine va_get (D := (dC, dI)) (ci := 6) (v := .ref (h 4)) (C := R_Q) (T := T_Q) (N := 6) hx hb hg in_Q hown hK hP 0 rfl rfl 3 (by decide) (hg _ t_159) (fun _ h9 => h9) rfl d_Q_global_20 ?_
    refine va_getN (D := (dC, dI)) (ci := 3) (v := .ref (h 13)) (C := R_M) (T := T_M) (N := 11) hx hb hg in_M hown hK hP 4 rfl rfl 2 (by decide) (va_Nw.use rfl (nF_3 hNs)) (fun _ h9 => h9) rfl d_Q_global_23 ?_
    refine lv_iload_n hx hb d_Q_global_26 rfl (lv_at hl 1 rfl) ?_
    obtain ⟨c3, hF⟩ := qs_in_some hF
    refine va_iald hx hb hK hP 13 6 rfl rfl c3 d_Q_global_27 ?_
    have h9 := Option.some.inj hF
    refine vx_ret ?_
    refine W.widen (k := 1) (n := 6) (Nat.le_of_ble_eq_true rfl) (Nat.le_of_ble_eq_true rfl) ?_
    exact W.iret (v := g 13 a1.toNatClampNeg) hx hb hr (fun t ht hW => ⟨⟨(g 13 a1.toNatClampNeg), g, rfl, h9.symm, by rw [ht]; exact hP, va_K.moved hW.alike hK, hD⟩, hS.F ht⟩) hS.2.2 d_Q_global_28
  · have hF := qs_pos c2 hF
    have h9 := Option.some.inj hF
    exact vx_throwS (text := "no such global") (names := ["java/lang/RuntimeException", "java/lang/Exception"]) hx hb hl9 hown (by decide +kernel) (by decide +kernel) (hg _ t_215) (hg _ t_12) hs154 (ha_Q_65 hg hNs) hd_Q_65 hU hN hS (hl.1.trans hml.symm) d_Q_global_9 d_Q_global_12 d_Q_global_13 d_Q_global_15 d_Q_global_18 (fun x h => (ht x h).elim) (Nat.le_of_ble_eq_true rfl) (Nat.le_of_ble_eq_true rfl) (Nat.le_of_ble_eq_true rfl) (Nat.le_of_ble_eq_true rfl) hlocks (fun t hvm hz hk => ⟨g, trivial, ⟨⟨h9.symm, by decide⟩, hP.kept (fun k q hq => hk q.1 (hP k q hq).lt), va_K.moved hvm hK, hD⟩, qs_F hS hz hk⟩) hS.2.2 (Nat.le_refl _) (Nat.le_refl _)

theorem d_Q_run_0 : decode b_Q_run 0 = .ok (.iload_n 1, 1) := by decide +kernel
theorem d_Q_run_1 : decode b_Q_run 1 = .ok (.bipush 6, 2) := by decide +kernel
theorem d_Q_run_3 : decode b_Q_run 3 = .ok (.invokestatic 83, 3) := by decide +kernel
theorem d_Q_run_6 : decode b_Q_run 6 = .ok (.ifCond .eq 17, 3) := by decide +kernel
theorem d_Q_run_9 : decode b_Q_run 9 = .ok (.iload_n 2, 1) := by decide +kernel
theorem d_Q_run_10 : decode b_Q_run 10 = .ok (.invokestatic 156, 3) := by decide +kernel
theorem d_Q_run_13 : decode b_Q_run 13 = .ok (.ifCond .eq 10, 3) := by decide +kernel
theorem d_Q_run_16 : decode b_Q_run 16 = .ok (.iload_n 3, 1) := by decide +kernel
theorem d_Q_run_17 : decode b_Q_run 17 = .ok (.invokestatic 156, 3) := by decide +kernel
theorem d_Q_run_20 : decode b_Q_run 20 = .ok (.ifCond .ne 13, 3) := by decide +kernel
theorem d_Q_run_23 : decode b_Q_run 23 = .ok (.new 61, 3) := by decide +kernel
theorem d_Q_run_26 : decode b_Q_run 26 = .ok (.dup, 1) := by decide +kernel
theorem d_Q_run_27 : decode b_Q_run 27 = .ok (.ldc 159, 2) := by decide +kernel
theorem d_Q_run_29 : decode b_Q_run 29 = .ok (.invokespecial 65, 3) := by decide +kernel
theorem d_Q_run_32 : decode b_Q_run 32 = .ok (.athrow, 1) := by decide +kernel
theorem d_Q_run_33 : decode b_Q_run 33 = .ok (.aload_n 0, 1) := by decide +kernel
theorem d_Q_run_34 : decode b_Q_run 34 = .ok (.getfield 35, 3) := by decide +kernel
theorem d_Q_run_37 : decode b_Q_run 37 = .ok (.iload_n 1, 1) := by decide +kernel
theorem d_Q_run_38 : decode b_Q_run 38 = .ok (.iload_n 2, 1) := by decide +kernel
theorem d_Q_run_39 : decode b_Q_run 39 = .ok (.iload_n 3, 1) := by decide +kernel
theorem d_Q_run_40 : decode b_Q_run 40 = .ok (.invokevirtual 161, 3) := by decide +kernel
theorem d_Q_run_43 : decode b_Q_run 43 = .ok (.ireturn, 1) := by decide +kernel
def f_Q_run (g : Sg) (a1 : Int32) (a2 : Int32) (a3 : Int32) : Option ((String × Sg) ⊕ (Int32 × Sg)) := (qs_pb (f_Q_isBelow (a1) (6)) fun r1 => (if r1 = 0 then (some (.inl ("java/lang/IllegalArgumentException", g))) else (qs_pb (f_Q_isEntityOrWorld (a2)) fun r3 => (if r3 = 0 then (some (.inl ("java/lang/IllegalArgumentException", g))) else (qs_pb (f_Q_isEntityOrWorld (a3)) fun r5 => (if r5 = 0 then (some (.inl ("java/lang/IllegalArgumentException", g))) else (qs_bn (f_M_start g (a1) (a2) (a3)) fun r7 u8 => (some (.inr (r7, u8))))))))))
set_option maxHeartbeats 4000000 in
set_option maxRecDepth 100000 in
theorem c_Q_run (l : Launch) (hl9 : l.stackTraces = false) (dC : Nat → ClassId) (dI : Nat → Nat → Nat) (h : Nat → Nat) (c : Nat → ClassId) (sz : Nat) (sa159 : Nat) (g : Sg) (a1 : Int32) (a2 : Int32) (a3 : Int32) (r0 : ((String × Sg) ⊕ (Int32 × Sg))) (hF : f_Q_run g a1 a2 a3 = some r0) : vx_Met l y_Q_run (qs_ws y_Q_run b_Q_run 4 (some .int)) ({ frames := 6, cells := 1, slots := 6, locals := 121 } : Room) (va_Pc ([.ref (h 0), .int a1, .int a2, .int a3] : List Value) (fun U => U.heap.size = sz ∧ va_P (dC, dI) vwCl (qs_W h c g) U.heap ∧ va_K (dC, dI) vwCl (qs_T c) U ∧ va_D (fun _ => True) (qs_W h c g) ∧ qs_N U ∧ vx_Zq Bundle.tN "UNASSIGNED_STACK" Bundle.steD (va_A (qs_W h c g) sz) U U.heap ∧ vx_Zq Bundle.tN "SUPPRESSED_SENTINEL" Bundle.listD (va_A (qs_W h c g) sz) U U.heap ∧ vk_R R_Q 159 "no such function or entity" sa159 U)) (va_Qi (fun (r : Int32) (u : Sg) => r0 = .inr (r, u)) (qs_at dC dI h c (va_A (qs_W h c g) sz)) (va_A (qs_W h c g) sz)) (vx_X (fun (_ : Sg) => True) (fun E u t => (r0 = .inl (E, u) ∧ E ∈ (["java/lang/IllegalArgumentException"] : List String)) ∧ qs_at dC dI h c (va_A (qs_W h c g) sz) u t) (va_A (qs_W h c g) sz)) 1 6 (va_A (qs_W h c g) sz) := by
  refine vx_ofW (cc := b_Q_run) (maxL := 4) (ret := (some .int)) (by decide +kernel) rfl ?_
  intro p e s m args below meth cd s₁ B hml ht hv
  obtain ⟨rfl, hsz, hP, hK, hD0, hNs, hU, hN, hs159⟩ := hv
  have hx := B.exec
  have hb := B.bytes
  have hr := B.returns
  have hts := atoms_spec (ws := (qs_ws y_Q_run b_Q_run 4 (some .int))) B.pre
  have hg : ∀ w ∈ qs_gt, w.before _ s = true := fun w h => hts w (List.mem_cons_of_mem _ h)
  have hown : s.vm.findClass R_Q = some m.cls := findClass_of_methodNamed B.named
  have hlocks := B.notSynchronized
  subst hsz
  have hD := hD0.self (sz := s.heap.size)
  generalize hAe : va_A (qs_W h c g) s.heap.size = A at hD hU hN ⊢
  have hA : ∀ q : Nat, s.heap.size ≤ q → A q := fun q h => by rw [← hAe]; exact Or.inr h
  have hS : va_S A s.heap s.heap [] := va_S.rf
  have hl := lv_entry ([.ref (h 0), .int a1, .int a2, .int a3] : List Value) (n := 4) (Nat.le_of_ble_eq_true rfl)
  rw [lg_entry_eq]
  generalize (lg_sl ([.ref (h 0), .int a1, .int a2, .int a3] : List Value) ++ List.replicate (4 - (lg_sl ([.ref (h 0), .int a1, .int a2, .int a3] : List Value)).length) Slot.unset).toArray = ls at hl ⊢
  have hl : lv_has ls 4 [(0, .ref (h 0)), (1, .int (a1)), (2, .int (a2)), (3, .int (a3))] := hl
  unfold f_Q_run at hF
  obtain ⟨H, hHe⟩ : ∃ H, H = s.heap := ⟨_, rfl⟩
  obtain ⟨locs, hLe⟩ : ∃ L : List Loc, L = [] := ⟨_, rfl⟩
  rw [← hHe] at hP ⊢
  rw [← hLe]
  have hS : va_S A s.heap H locs := by rw [hHe, hLe]; exact hS
  refine lv_iload_n hx hb d_Q_run_0 rfl (lv_at hl 1 rfl) ?_
  refine lv_bipush (v := 6) hx hb d_Q_run_1 (by decide) ?_
  obtain ⟨r1, hX, hF⟩ := qs_pb_some hF
  refine qs_psi (va_runS (own := "QuakeServer") (As := [.int (a1), .int (6)]) (rest := []) ⟨hx, hb, hml, hown, hg⟩ (c_Q_isBelow l H.size (a1) (6) r1 hX) (va_cwS 2 hg (qs_gS t_311 t_312 t_1 t_313) rfl rfl rfl (by decide +kernel) ⟨Nat.le_of_ble_eq_true rfl, Nat.le_of_ble_eq_true rfl⟩) ⟨qs_blind0, fun U hU hW => ⟨rfl, by rw [hU], hNs.warm hW⟩⟩ rfl rfl hl.1 rfl (lv_room (Nat.le_of_ble_eq_true rfl)) d_Q_run_3 ⟨Nat.le_of_ble_eq_true rfl, Nat.le_of_ble_eq_true rfl⟩) hP hD hS hA (fun H locs hP hS => ?_)
  refine lv_if_eq (tgt := 23) hx hb d_Q_run_6 (by decide) (fun c2 => ?_) (fun c2 => ?_)
  · have hF := qs_pos c2 hF
    have h9 := Option.some.inj hF
    exact vx_throwS (text := "no such function or entity") (names := ["java/lang/RuntimeException", "java/lang/Exception"]) hx hb hl9 hown (by decide +kernel) (by decide +kernel) (hg _ t_215) (hg _ t_12) hs159 (ha_Q_65 hg hNs) hd_Q_65 hU hN hS (hl.1.trans hml.symm) d_Q_run_23 d_Q_run_26 d_Q_run_27 d_Q_run_29 d_Q_run_32 (fun x h => (ht x h).elim) (Nat.le_of_ble_eq_true rfl) (Nat.le_of_ble_eq_true rfl) (Nat.le_of_ble_eq_true rfl) (Nat.le_of_ble_eq_true rfl) hlocks (fun t hvm hz hk => ⟨g, trivial, ⟨⟨h9.symm, by decide⟩, hP.kept (fun k q hq => hk q.1 (hP k q hq).lt), va_K.moved hvm hK, hD⟩, qs_F hS hz hk⟩) hS.2.2 (Nat.le_refl _) (Nat.le_refl _)
  · have hF := qs_neg c2 hF
    refine lv_iload_n hx hb d_Q_run_9 rfl (lv_at hl 2 rfl) ?_
    obtain ⟨r3, hX, hF⟩ := qs_pb_some hF
    refine qs_psi (va_runS (own := "QuakeServer") (As := [.int (a2)]) (rest := []) ⟨hx, hb, hml, hown, hg⟩ (c_Q_isEntityOrWorld l H.size (a2) r3 hX) (va_cwS 1 hg (qs_gS t_433 t_434 t_1 t_435) rfl rfl rfl (by decide +kernel) ⟨Nat.le_of_ble_eq_true rfl, Nat.le_of_ble_eq_true rfl⟩) ⟨qs_blind0, fun U hU hW => ⟨rfl, by rw [hU], hNs.warm hW⟩⟩ rfl rfl hl.1 rfl (lv_room (Nat.le_of_ble_eq_true rfl)) d_Q_run_10 ⟨Nat.le_of_ble_eq_true rfl, Nat.le_of_ble_eq_true rfl⟩) hP hD hS hA (fun H locs hP hS => ?_)
    refine lv_if_eq (tgt := 23) hx hb d_Q_run_13 (by decide) (fun c4 => ?_) (fun c4 => ?_)
    · have hF := qs_pos c4 hF
      have h9 := Option.some.inj hF
      exact vx_throwS (text := "no such function or entity") (names := ["java/lang/RuntimeException", "java/lang/Exception"]) hx hb hl9 hown (by decide +kernel) (by decide +kernel) (hg _ t_215) (hg _ t_12) hs159 (ha_Q_65 hg hNs) hd_Q_65 hU hN hS (hl.1.trans hml.symm) d_Q_run_23 d_Q_run_26 d_Q_run_27 d_Q_run_29 d_Q_run_32 (fun x h => (ht x h).elim) (Nat.le_of_ble_eq_true rfl) (Nat.le_of_ble_eq_true rfl) (Nat.le_of_ble_eq_true rfl) (Nat.le_of_ble_eq_true rfl) hlocks (fun t hvm hz hk => ⟨g, trivial, ⟨⟨h9.symm, by decide⟩, hP.kept (fun k q hq => hk q.1 (hP k q hq).lt), va_K.moved hvm hK, hD⟩, qs_F hS hz hk⟩) hS.2.2 (Nat.le_refl _) (Nat.le_refl _)
    · have hF := qs_neg c4 hF
      refine lv_iload_n hx hb d_Q_run_16 rfl (lv_at hl 3 rfl) ?_
      obtain ⟨r5, hX, hF⟩ := qs_pb_some hF
      refine qs_psi (va_runS (own := "QuakeServer") (As := [.int (a3)]) (rest := []) ⟨hx, hb, hml, hown, hg⟩ (c_Q_isEntityOrWorld l H.size (a3) r5 hX) (va_cwS 1 hg (qs_gS t_433 t_434 t_1 t_435) rfl rfl rfl (by decide +kernel) ⟨Nat.le_of_ble_eq_true rfl, Nat.le_of_ble_eq_true rfl⟩) ⟨qs_blind0, fun U hU hW => ⟨rfl, by rw [hU], hNs.warm hW⟩⟩ rfl rfl hl.1 rfl (lv_room (Nat.le_of_ble_eq_true rfl)) d_Q_run_17 ⟨Nat.le_of_ble_eq_true rfl, Nat.le_of_ble_eq_true rfl⟩) hP hD hS hA (fun H locs hP hS => ?_)
      refine lv_if_ne (tgt := 33) hx hb d_Q_run_20 (by decide) (fun c6 => ?_) (fun c6 => ?_)
      · have hF := qs_neg c6 hF
        refine lv_aload_n hx hb d_Q_run_33 rfl (lv_at hl 0 rfl) ?_
        refine va_get (D := (dC, dI)) (ci := 6) (v := .ref (h 4)) (C := R_Q) (T := T_Q) (N := 6) hx hb hg in_Q hown hK hP 0 rfl rfl 3 (by decide) (hg _ t_159) (fun _ h9 => h9) rfl d_Q_run_34 ?_
        refine lv_iload_n hx hb d_Q_run_37 rfl (lv_at hl 1 rfl) ?_
        refine lv_iload_n hx hb d_Q_run_38 rfl (lv_at hl 2 rfl) ?_
        refine lv_iload_n hx hb d_Q_run_39 rfl (lv_at hl 3 rfl) ?_
        obtain ⟨r7, u8, hX, hF⟩ := qs_bn_some hF
        refine qs_ci (Wd := qs_W h c) (isC := [0, 1, 2, 3, 4, 5, 6, 7, 8, 9, 10, 11, 12, 13, 14, 15, 16]) (va_runV (own := "QuakeServer") (C := "QuakeServer$Machine") (As := [.int (a1), .int (a2), .int (a3)]) (rest := []) ⟨hx, hb, hml, hown, hg⟩ (c_M_start l dC dI h c H.size g (a1) (a2) (a3) r7 u8 hX) (cwV 3 hg (qs_gV t_437 t_438 t_439 t_5 t_440) rfl rfl rfl (by decide +kernel) ⟨Nat.le_of_ble_eq_true rfl, Nat.le_of_ble_eq_true rfl⟩) ⟨qs_blind, va_recv hK hP (ci := 3) (q0 := 4) rfl rfl, fun U hU hW => ⟨rfl, by rw [hU], by rw [hU]; exact hP, va_K.moved hW.alike hK, hD.weaken (fun _ _ _ _ => trivial), hNs.warm hW⟩⟩ rfl rfl hl.1 rfl (lv_room (Nat.le_of_ble_eq_true rfl)) d_Q_run_40 ⟨Nat.le_of_ble_eq_true rfl, Nat.le_of_ble_eq_true rfl⟩) rfl hP hD hS hA (fun H locs hP hD hS => ?_)
        have h9 := Option.some.inj hF
        refine vx_ret ?_
        refine W.widen (k := 1) (n := 6) (Nat.le_of_ble_eq_true rfl) (Nat.le_of_ble_eq_true rfl) ?_
        exact W.iret (v := r7) hx hb hr (fun t ht hW => ⟨⟨r7, u8, rfl, h9.symm, by rw [ht]; exact hP, va_K.moved hW.alike hK, hD⟩, hS.F ht⟩) hS.2.2 d_Q_run_43
      · have hF := qs_pos c6 hF
        have h9 := Option.some.inj hF
        exact vx_throwS (text := "no such function or entity") (names := ["java/lang/RuntimeException", "java/lang/Exception"]) hx hb hl9 hown (by decide +kernel) (by decide +kernel) (hg _ t_215) (hg _ t_12) hs159 (ha_Q_65 hg hNs) hd_Q_65 hU hN hS (hl.1.trans hml.symm) d_Q_run_23 d_Q_run_26 d_Q_run_27 d_Q_run_29 d_Q_run_32 (fun x h => (ht x h).elim) (Nat.le_of_ble_eq_true rfl) (Nat.le_of_ble_eq_true rfl) (Nat.le_of_ble_eq_true rfl) (Nat.le_of_ble_eq_true rfl) hlocks (fun t hvm hz hk => ⟨g, trivial, ⟨⟨h9.symm, by decide⟩, hP.kept (fun k q hq => hk q.1 (hP k q hq).lt), va_K.moved hvm hK, hD⟩, qs_F hS hz hk⟩) hS.2.2 (Nat.le_refl _) (Nat.le_refl _)

theorem d_Q_tick_0 : decode b_Q_tick 0 = .ok (.iload_n 1, 1) := by decide +kernel
theorem d_Q_tick_1 : decode b_Q_tick 1 = .ok (.iconst 1, 1) := by decide +kernel
theorem d_Q_tick_2 : decode b_Q_tick 2 = .ok (.if_icmp .lt 8, 3) := by decide +kernel
theorem d_Q_tick_5 : decode b_Q_tick 5 = .ok (.iload_n 1, 1) := by decide +kernel
theorem d_Q_tick_6 : decode b_Q_tick 6 = .ok (.iconst 4, 1) := by decide +kernel
theorem d_Q_tick_7 : decode b_Q_tick 7 = .ok (.if_icmp .le 13, 3) := by decide +kernel
theorem d_Q_tick_10 : decode b_Q_tick 10 = .ok (.new 61, 3) := by decide +kernel
theorem d_Q_tick_13 : decode b_Q_tick 13 = .ok (.dup, 1) := by decide +kernel
theorem d_Q_tick_14 : decode b_Q_tick 14 = .ok (.ldc 165, 2) := by decide +kernel
theorem d_Q_tick_16 : decode b_Q_tick 16 = .ok (.invokespecial 65, 3) := by decide +kernel
theorem d_Q_tick_19 : decode b_Q_tick 19 = .ok (.athrow, 1) := by decide +kernel
theorem d_Q_tick_20 : decode b_Q_tick 20 = .ok (.iconst 0, 1) := by decide +kernel
theorem d_Q_tick_21 : decode b_Q_tick 21 = .ok (.istore_n 2, 1) := by decide +kernel
theorem d_Q_tick_22 : decode b_Q_tick 22 = .ok (.iload_n 2, 1) := by decide +kernel
theorem d_Q_tick_23 : decode b_Q_tick 23 = .ok (.iload_n 1, 1) := by decide +kernel
theorem d_Q_tick_24 : decode b_Q_tick 24 = .ok (.if_icmp .ge 38, 3) := by decide +kernel
theorem d_Q_tick_27 : decode b_Q_tick 27 = .ok (.aload_n 0, 1) := by decide +kernel
theorem d_Q_tick_28 : decode b_Q_tick 28 = .ok (.getfield 35, 3) := by decide +kernel
theorem d_Q_tick_31 : decode b_Q_tick 31 = .ok (.invokevirtual 167, 3) := by decide +kernel
theorem d_Q_tick_34 : decode b_Q_tick 34 = .ok (.iconst 0, 1) := by decide +kernel
theorem d_Q_tick_35 : decode b_Q_tick 35 = .ok (.istore_n 3, 1) := by decide +kernel
theorem d_Q_tick_36 : decode b_Q_tick 36 = .ok (.iload_n 3, 1) := by decide +kernel
theorem d_Q_tick_37 : decode b_Q_tick 37 = .ok (.bipush 12, 2) := by decide +kernel
theorem d_Q_tick_39 : decode b_Q_tick 39 = .ok (.if_icmp .ge 17, 3) := by decide +kernel
theorem d_Q_tick_42 : decode b_Q_tick 42 = .ok (.aload_n 0, 1) := by decide +kernel
theorem d_Q_tick_43 : decode b_Q_tick 43 = .ok (.getfield 44, 3) := by decide +kernel
theorem d_Q_tick_46 : decode b_Q_tick 46 = .ok (.iload_n 3, 1) := by decide +kernel
theorem d_Q_tick_47 : decode b_Q_tick 47 = .ok (.invokevirtual 170, 3) := by decide +kernel
theorem d_Q_tick_50 : decode b_Q_tick 50 = .ok (.iinc 3 1, 3) := by decide +kernel
theorem d_Q_tick_53 : decode b_Q_tick 53 = .ok (.goto (-17), 3) := by decide +kernel
theorem d_Q_tick_56 : decode b_Q_tick 56 = .ok (.iinc 2 1, 3) := by decide +kernel
theorem d_Q_tick_59 : decode b_Q_tick 59 = .ok (.goto (-37), 3) := by decide +kernel
theorem d_Q_tick_62 : decode b_Q_tick 62 = .ok (.aload_n 0, 1) := by decide +kernel
theorem d_Q_tick_63 : decode b_Q_tick 63 = .ok (.getfield 12, 3) := by decide +kernel
theorem d_Q_tick_66 : decode b_Q_tick 66 = .ok (.invokevirtual 173, 3) := by decide +kernel
theorem d_Q_tick_69 : decode b_Q_tick 69 = .ok (.ireturn, 1) := by decide +kernel
def f_Q_tick_36 (k22 : Sg → Int32 → Int32 → Option ((String × Sg) ⊕ (Int32 × Sg))) : Nat → Sg → Int32 → Int32 → Int32 → Option ((String × Sg) ⊕ (Int32 × Sg))
  | 0, _, _, _, _ => none
  | n + 1, g, x1, x2, x3 => (if 12 ≤ x3 then (k22 g (x1) (x2 + 1)) else (qs_bn (f_V_takeTurn g (x3)) fun _ u10 => (f_Q_tick_36 k22 n u10 (x1) (x2) (x3 + 1))))
def f_Q_tick_22  : Nat → Sg → Int32 → Int32 → Option ((String × Sg) ⊕ (Int32 × Sg))
  | 0, _, _, _ => none
  | n + 1, g, x1, x2 => (if x1 ≤ x2 then (qs_bn (f_E_number g ) fun r4 u5 => (some (.inr (r4, u5)))) else (qs_bn (f_M_advanceTime g ) fun _ u7 => (f_Q_tick_36 (fun g x1 x2 => f_Q_tick_22  n g x1 x2) 200 u7 (x1) (x2) (0))))
def f_Q_tick (g : Sg) (a1 : Int32) : Option ((String × Sg) ⊕ (Int32 × Sg)) := (if a1 < 1 then (some (.inl ("java/lang/IllegalArgumentException", g))) else (if a1 ≤ 4 then (f_Q_tick_22 200 g (a1) (0)) else (some (.inl ("java/lang/IllegalArgumentException", g)))))
set_option maxHeartbeats 4000000 in
set_option maxRecDepth 100000 in
theorem c_Q_tick (l : Launch) (hl9 : l.stackTraces = false) (dC : Nat → ClassId) (dI : Nat → Nat → Nat) (h : Nat → Nat) (c : Nat → ClassId) (sz : Nat) (sa165 : Nat) (g : Sg) (a1 : Int32) (r0 : ((String × Sg) ⊕ (Int32 × Sg))) (hF : f_Q_tick g a1 = some r0) : vx_Met l y_Q_tick (qs_ws y_Q_tick b_Q_tick 4 (some .int)) ({ frames := 7, cells := 1, slots := 6, locals := 166 } : Room) (va_Pc ([.ref (h 0), .int a1] : List Value) (fun U => U.heap.size = sz ∧ va_P (dC, dI) vwCl (qs_W h c g) U.heap ∧ va_K (dC, dI) vwCl (qs_T c) U ∧ va_D (fun _ => True) (qs_W h c g) ∧ qs_N U ∧ vx_Zq Bundle.tN "UNASSIGNED_STACK" Bundle.steD (va_A (qs_W h c g) sz) U U.heap ∧ vx_Zq Bundle.tN "SUPPRESSED_SENTINEL" Bundle.listD (va_A (qs_W h c g) sz) U U.heap ∧ vk_R R_Q 165 "not 1 .. 4 ticks" sa165 U)) (va_Qi (fun (r : Int32) (u : Sg) => r0 = .inr (r, u)) (qs_at dC dI h c (va_A (qs_W h c g) sz)) (va_A (qs_W h c g) sz)) (vx_X (fun (_ : Sg) => True) (fun E u t => (r0 = .inl (E, u) ∧ E ∈ (["java/lang/IllegalArgumentException"] : List String)) ∧ qs_at dC dI h c (va_A (qs_W h c g) sz) u t) (va_A (qs_W h c g) sz)) 1 6 (va_A (qs_W h c g) sz) := by
  refine vx_ofW (cc := b_Q_tick) (maxL := 4) (ret := (some .int)) (by decide +kernel) rfl ?_
  intro p e s m args below meth cd s₁ B hml ht hv
  obtain ⟨rfl, hsz, hP, hK, hD0, hNs, hU, hN, hs165⟩ := hv
  have hx := B.exec
  have hb := B.bytes
  have hr := B.returns
  have hts := atoms_spec (ws := (qs_ws y_Q_tick b_Q_tick 4 (some .int))) B.pre
  have hg : ∀ w ∈ qs_gt, w.before _ s = true := fun w h => hts w (List.mem_cons_of_mem _ h)
  have hown : s.vm.findClass R_Q = some m.cls := findClass_of_methodNamed B.named
  have hlocks := B.notSynchronized
  subst hsz
  have hD := hD0.self (sz := s.heap.size)
  generalize hAe : va_A (qs_W h c g) s.heap.size = A at hD hU hN ⊢
  have hA : ∀ q : Nat, s.heap.size ≤ q → A q := fun q h => by rw [← hAe]; exact Or.inr h
  have hS : va_S A s.heap s.heap [] := va_S.rf
  have kb_36 : ∀ (k22 : Sg → Int32 → Int32 → Option ((String × Sg) ⊕ (Int32 × Sg))), (∀ (g : Sg) (x1 : Int32) (x2 : Int32) (H : Heap) (locs : List Loc) (ls : Array Slot), va_P (dC, dI) vwCl (qs_W h c g) H → va_D A (qs_W h c g) → va_S A s.heap H locs → lv_has ls 4 [(0, .ref (h 0)), (1, .int (x1)), (2, .int (x2))] → k22 g x1 x2 = some r0 → W p l e (headSpec (qs_ws y_Q_tick b_Q_tick 4 (some .int)) ({ frames := 7, cells := 1, slots := 6, locals := 166 } : Room)).room s m ([.ref (h 0), .int a1] : List Value).toArray below meth cd H locs 0 0 (vx_MQ below (va_Qi (fun (r : Int32) (u : Sg) => r0 = .inr (r, u)) (qs_at dC dI h c A) A) (vx_X (fun (_ : Sg) => True) (fun E u t => (r0 = .inl (E, u) ∧ E ∈ (["java/lang/IllegalArgumentException"] : List String)) ∧ qs_at dC dI h c A u t) A) ([.ref (h 0), .int a1] : List Value).toArray s 1 6 A) (F0 m 22 ls [])) → ∀ n : Nat, ∀ (g : Sg) (x1 : Int32) (x2 : Int32) (x3 : Int32) (H : Heap) (locs : List Loc) (ls : Array Slot), va_P (dC, dI) vwCl (qs_W h c g) H → va_D A (qs_W h c g) → va_S A s.heap H locs → lv_has ls 4 [(0, .ref (h 0)), (1, .int (x1)), (2, .int (x2)), (3, .int (x3))] → f_Q_tick_36 k22 n g x1 x2 x3 = some r0 → W p l e (headSpec (qs_ws y_Q_tick b_Q_tick 4 (some .int)) ({ frames := 7, cells := 1, slots := 6, locals := 166 } : Room)).room s m ([.ref (h 0), .int a1] : List Value).toArray below meth cd H locs 0 0 (vx_MQ below (va_Qi (fun (r : Int32) (u : Sg) => r0 = .inr (r, u)) (qs_at dC dI h c A) A) (vx_X (fun (_ : Sg) => True) (fun E u t => (r0 = .inl (E, u) ∧ E ∈ (["java/lang/IllegalArgumentException"] : List String)) ∧ qs_at dC dI h c A u t) A) ([.ref (h 0), .int a1] : List Value).toArray s 1 6 A) (F0 m 36 ls []) := by
    intro k22 hk22
    intro n
    induction n with
    | zero =>
      intro g x1 x2 x3 H locs ls hP hD hS hl hF
      exact nomatch (show (none : Option ((String × Sg) ⊕ (Int32 × Sg))) = some _ from hF)
    | succ n ih =>
      intro g x1 x2 x3 H locs ls hP hD hS hl hF
      rw [f_Q_tick_36] at hF
      refine lv_iload_n hx hb d_Q_tick_36 rfl (lv_at hl 3 rfl) ?_
      refine lv_bipush (v := 12) hx hb d_Q_tick_37 (by decide) ?_
      refine lv_icmp_ge (tgt := 56) hx hb d_Q_tick_39 (by decide) (fun c8 => ?_) (fun c8 => ?_)
      · have hF := qs_pos c8 hF
        refine lv_iinc (v := x2 + 1) (lv' := [(2, .int (x2 + 1)), (0, .ref (h 0)), (1, .int (x1)), (3, .int (x3))]) hx hb d_Q_tick_56 hl (k := 2) rfl (by rfl) (by decide) rfl (fun ls hl => ?_)
        refine lv_goto (tgt := 22) hx hb d_Q_tick_59 (by decide) ?_
        exact hk22 g (x1) (x2 + 1) H locs ls hP hD hS (lv_sub hl [1, 2, 0] rfl) hF
      · have hF := qs_neg c8 hF
        refine lv_aload_n hx hb d_Q_tick_42 rfl (lv_at hl 0 rfl) ?_
        refine va_get (D := (dC, dI)) (ci := 6) (v := .ref (h 5)) (C := R_Q) (T := T_Q) (N := 6) hx hb hg in_Q hown hK hP 0 rfl rfl 4 (by decide) (hg _ t_160) (fun _ h9 => h9) rfl d_Q_tick_43 ?_
        refine lv_iload_n hx hb d_Q_tick_46 rfl (lv_at hl 3 rfl) ?_
        obtain ⟨r9, u10, hX, hF⟩ := qs_bn_some hF
        refine qs_cv (Wd := qs_W h c) (isC := [0, 1, 2, 3, 4, 5, 6, 7, 8, 9, 10, 11, 12, 13, 14, 15, 16]) (va_runV (own := "QuakeServer") (C := "QuakeServer$Mover") (As := [.int (x3)]) (rest := []) ⟨hx, hb, hml, hown, hg⟩ (c_V_takeTurn l dC dI h c H.size g (x3)  u10 hX) (cwV 1 hg (qs_gV t_504 t_505 t_506 t_6 t_507) rfl rfl rfl (by decide +kernel) ⟨Nat.le_of_ble_eq_true rfl, Nat.le_of_ble_eq_true rfl⟩) ⟨qs_blind, va_recv hK hP (ci := 4) (q0 := 5) rfl rfl, fun U hU hW => ⟨rfl, by rw [hU], by rw [hU]; exact hP, va_K.moved hW.alike hK, hD.weaken (fun _ _ _ _ => trivial), hNs.warm hW⟩⟩ rfl rfl hl.1 rfl (lv_room (Nat.le_of_ble_eq_true rfl)) d_Q_tick_47 ⟨Nat.le_of_ble_eq_true rfl, Nat.le_of_ble_eq_true rfl⟩) rfl hP hD hS hA (fun H locs hP hD hS => ?_)
        refine lv_iinc (v := x3 + 1) (lv' := [(3, .int (x3 + 1)), (0, .ref (h 0)), (1, .int (x1)), (2, .int (x2))]) hx hb d_Q_tick_50 hl (k := 3) rfl (by rfl) (by decide) rfl (fun ls hl => ?_)
        refine lv_goto (tgt := 36) hx hb d_Q_tick_53 (by decide) ?_
        exact ih u10 (x1) (x2) (x3 + 1) H locs ls hP hD hS (lv_sub hl [1, 2, 3, 0] rfl) hF
  have kb_22 : ∀ n : Nat, ∀ (g : Sg) (x1 : Int32) (x2 : Int32) (H : Heap) (locs : List Loc) (ls : Array Slot), va_P (dC, dI) vwCl (qs_W h c g) H → va_D A (qs_W h c g) → va_S A s.heap H locs → lv_has ls 4 [(0, .ref (h 0)), (1, .int (x1)), (2, .int (x2))] → f_Q_tick_22 n g x1 x2 = some r0 → W p l e (headSpec (qs_ws y_Q_tick b_Q_tick 4 (some .int)) ({ frames := 7, cells := 1, slots := 6, locals := 166 } : Room)).room s m ([.ref (h 0), .int a1] : List Value).toArray below meth cd H locs 0 0 (vx_MQ below (va_Qi (fun (r : Int32) (u : Sg) => r0 = .inr (r, u)) (qs_at dC dI h c A) A) (vx_X (fun (_ : Sg) => True) (fun E u t => (r0 = .inl (E, u) ∧ E ∈ (["java/lang/IllegalArgumentException"] : List String)) ∧ qs_at dC dI h c A u t) A) ([.ref (h 0), .int a1] : List Value).toArray s 1 6 A) (F0 m 22 ls []) := by
    intro n
    induction n with
    | zero =>
      intro g x1 x2 H locs ls hP hD hS hl hF
      exact nomatch (show (none : Option ((String × Sg) ⊕ (Int32 × Sg))) = some _ from hF)
    | succ n ih =>
      intro g x1 x2 H locs ls hP hD hS hl hF
      rw [f_Q_tick_22] at hF
      refine lv_iload_n hx hb d_Q_tick_22 rfl (lv_at hl 2 rfl) ?_
      refine lv_iload_n hx hb d_Q_tick_23 rfl (lv_at hl 1 rfl) ?_
      refine lv_icmp_ge (tgt := 62) hx hb d_Q_tick_24 (by decide) (fun c3 => ?_) (fun c3 => ?_)
      · have hF := qs_pos c3 hF
        refine lv_aload_n hx hb d_Q_tick_62 rfl (lv_at hl 0 rfl) ?_
        refine va_get (D := (dC, dI)) (ci := 6) (v := .ref (h 1)) (C := R_Q) (T := T_Q) (N := 6) hx hb hg in_Q hown hK hP 0 rfl rfl 0 (by decide) (hg _ t_156) (fun _ h9 => h9) rfl d_Q_tick_63 ?_
        obtain ⟨r4, u5, hX, hF⟩ := qs_bn_some hF
        refine qs_ci (Wd := qs_W h c) (isC := [0, 1, 2, 3, 4, 5, 6, 7, 8, 9, 10, 11, 12, 13, 14, 15, 16]) (va_runV (own := "QuakeServer") (C := "QuakeServer$Entities") (As := []) (rest := []) ⟨hx, hb, hml, hown, hg⟩ (c_E_number l dC dI h c H.size g  r4 u5 hX) (cwV 0 hg (qs_gV t_588 t_589 t_590 t_2 t_591) rfl rfl rfl (by decide +kernel) ⟨Nat.le_of_ble_eq_true rfl, Nat.le_of_ble_eq_true rfl⟩) ⟨qs_blind, va_recv hK hP (ci := 0) (q0 := 1) rfl rfl, fun U hU hW => ⟨rfl, by rw [hU], by rw [hU]; exact hP, va_K.moved hW.alike hK, hD.weaken (fun _ _ _ _ => trivial), hNs.warm hW⟩⟩ rfl rfl hl.1 rfl (lv_room (Nat.le_of_ble_eq_true rfl)) d_Q_tick_66 ⟨Nat.le_of_ble_eq_true rfl, Nat.le_of_ble_eq_true rfl⟩) rfl hP hD hS hA (fun H locs hP hD hS => ?_)
        have h9 := Option.some.inj hF
        refine vx_ret ?_
        refine W.widen (k := 1) (n := 6) (Nat.le_of_ble_eq_true rfl) (Nat.le_of_ble_eq_true rfl) ?_
        exact W.iret (v := r4) hx hb hr (fun t ht hW => ⟨⟨r4, u5, rfl, h9.symm, by rw [ht]; exact hP, va_K.moved hW.alike hK, hD⟩, hS.F ht⟩) hS.2.2 d_Q_tick_69
      · have hF := qs_neg c3 hF
        refine lv_aload_n hx hb d_Q_tick_27 rfl (lv_at hl 0 rfl) ?_
        refine va_get (D := (dC, dI)) (ci := 6) (v := .ref (h 4)) (C := R_Q) (T := T_Q) (N := 6) hx hb hg in_Q hown hK hP 0 rfl rfl 3 (by decide) (hg _ t_159) (fun _ h9 => h9) rfl d_Q_tick_28 ?_
        obtain ⟨r6, u7, hX, hF⟩ := qs_bn_some hF
        refine qs_cv (Wd := qs_W h c) (isC := [0, 1, 2, 3, 4, 5, 6, 7, 8, 9, 10, 11, 12, 13, 14, 15, 16]) (va_runV (own := "QuakeServer") (C := "QuakeServer$Machine") (As := []) (rest := []) ⟨hx, hb, hml, hown, hg⟩ (c_M_advanceTime l dC dI h c H.size g   u7 hX) (cwV 0 hg (qs_gV t_500 t_501 t_502 t_5 t_503) rfl rfl rfl (by decide +kernel) ⟨Nat.le_of_ble_eq_true rfl, Nat.le_of_ble_eq_true rfl⟩) ⟨qs_blind, va_recv hK hP (ci := 3) (q0 := 4) rfl rfl, fun U hU hW => ⟨rfl, by rw [hU], by rw [hU]; exact hP, va_K.moved hW.alike hK, hD.weaken (fun _ _ _ _ => trivial), hNs.warm hW⟩⟩ rfl rfl hl.1 rfl (lv_room (Nat.le_of_ble_eq_true rfl)) d_Q_tick_31 ⟨Nat.le_of_ble_eq_true rfl, Nat.le_of_ble_eq_true rfl⟩) rfl hP hD hS hA (fun H locs hP hD hS => ?_)
        refine lv_iconst (v := 0) hx hb d_Q_tick_34 (by decide) ?_
        refine lv_istore_n (lv' := [(3, .int (0)), (0, .ref (h 0)), (1, .int (x1)), (2, .int (x2))]) hx hb d_Q_tick_35 rfl hl (by decide) rfl (fun ls hl => ?_)
        exact kb_36 _ ih 200 u7 (x1) (x2) (0) H locs ls hP hD hS (lv_sub hl [1, 2, 3, 0] rfl) hF
  have hl := lv_entry ([.ref (h 0), .int a1] : List Value) (n := 4) (Nat.le_of_ble_eq_true rfl)
  rw [lg_entry_eq]
  generalize (lg_sl ([.ref (h 0), .int a1] : List Value) ++ List.replicate (4 - (lg_sl ([.ref (h 0), .int a1] : List Value)).length) Slot.unset).toArray = ls at hl ⊢
  have hl : lv_has ls 4 [(0, .ref (h 0)), (1, .int (a1))] := hl
  unfold f_Q_tick at hF
  obtain ⟨H, hHe⟩ : ∃ H, H = s.heap := ⟨_, rfl⟩
  obtain ⟨locs, hLe⟩ : ∃ L : List Loc, L = [] := ⟨_, rfl⟩
  rw [← hHe] at hP ⊢
  rw [← hLe]
  have hS : va_S A s.heap H locs := by rw [hHe, hLe]; exact hS
  refine lv_iload_n hx hb d_Q_tick_0 rfl (lv_at hl 1 rfl) ?_
  refine lv_iconst (v := 1) hx hb d_Q_tick_1 (by decide) ?_
  refine lv_icmp_lt (tgt := 10) hx hb d_Q_tick_2 (by decide) (fun c1 => ?_) (fun c1 => ?_)
  · have hF := qs_pos c1 hF
    have h9 := Option.some.inj hF
    exact vx_throwS (text := "not 1 .. 4 ticks") (names := ["java/lang/RuntimeException", "java/lang/Exception"]) hx hb hl9 hown (by decide +kernel) (by decide +kernel) (hg _ t_215) (hg _ t_12) hs165 (ha_Q_65 hg hNs) hd_Q_65 hU hN hS (hl.1.trans hml.symm) d_Q_tick_10 d_Q_tick_13 d_Q_tick_14 d_Q_tick_16 d_Q_tick_19 (fun x h => (ht x h).elim) (Nat.le_of_ble_eq_true rfl) (Nat.le_of_ble_eq_true rfl) (Nat.le_of_ble_eq_true rfl) (Nat.le_of_ble_eq_true rfl) hlocks (fun t hvm hz hk => ⟨g, trivial, ⟨⟨h9.symm, by decide⟩, hP.kept (fun k q hq => hk q.1 (hP k q hq).lt), va_K.moved hvm hK, hD⟩, qs_F hS hz hk⟩) hS.2.2 (Nat.le_refl _) (Nat.le_refl _)
  · have hF := qs_neg c1 hF
    refine lv_iload_n hx hb d_Q_tick_5 rfl (lv_at hl 1 rfl) ?_
    refine lv_iconst (v := 4) hx hb d_Q_tick_6 (by decide) ?_
    refine lv_icmp_le (tgt := 20) hx hb d_Q_tick_7 (by decide) (fun c2 => ?_) (fun c2 => ?_)
    · have hF := qs_pos c2 hF
      refine lv_iconst (v := 0) hx hb d_Q_tick_20 (by decide) ?_
      refine lv_istore_n (lv' := [(2, .int (0)), (0, .ref (h 0)), (1, .int (a1))]) hx hb d_Q_tick_21 rfl hl (by decide) rfl (fun ls hl => ?_)
      exact kb_22 200 g (a1) (0) H locs ls hP hD hS (lv_sub hl [1, 2, 0] rfl) hF
    · have hF := qs_neg c2 hF
      have h9 := Option.some.inj hF
      exact vx_throwS (text := "not 1 .. 4 ticks") (names := ["java/lang/RuntimeException", "java/lang/Exception"]) hx hb hl9 hown (by decide +kernel) (by decide +kernel) (hg _ t_215) (hg _ t_12) hs165 (ha_Q_65 hg hNs) hd_Q_65 hU hN hS (hl.1.trans hml.symm) d_Q_tick_10 d_Q_tick_13 d_Q_tick_14 d_Q_tick_16 d_Q_tick_19 (fun x h => (ht x h).elim) (Nat.le_of_ble_eq_true rfl) (Nat.le_of_ble_eq_true rfl) (Nat.le_of_ble_eq_true rfl) (Nat.le_of_ble_eq_true rfl) hlocks (fun t hvm hz hk => ⟨g, trivial, ⟨⟨h9.symm, by decide⟩, hP.kept (fun k q hq => hk q.1 (hP k q hq).lt), va_K.moved hvm hK, hD⟩, qs_F hS hz hk⟩) hS.2.2 (Nat.le_refl _) (Nat.le_refl _)

theorem d_Q_count_0 : decode b_Q_count 0 = .ok (.iload_n 1, 1) := by decide +kernel
theorem d_Q_count_1 : decode b_Q_count 1 = .ok (.tableswitch 99 0 6 #[43, 51, 59, 67, 75, 83, 91], 43) := by decide +kernel
theorem d_Q_count_44 : decode b_Q_count 44 = .ok (.aload_n 0, 1) := by decide +kernel
theorem d_Q_count_45 : decode b_Q_count 45 = .ok (.getfield 12, 3) := by decide +kernel
theorem d_Q_count_48 : decode b_Q_count 48 = .ok (.invokevirtual 173, 3) := by decide +kernel
theorem d_Q_count_51 : decode b_Q_count 51 = .ok (.ireturn, 1) := by decide +kernel
theorem d_Q_count_52 : decode b_Q_count 52 = .ok (.aload_n 0, 1) := by decide +kernel
theorem d_Q_count_53 : decode b_Q_count 53 = .ok (.getfield 19, 3) := by decide +kernel
theorem d_Q_count_56 : decode b_Q_count 56 = .ok (.getfield 70, 3) := by decide +kernel
theorem d_Q_count_59 : decode b_Q_count 59 = .ok (.ireturn, 1) := by decide +kernel
theorem d_Q_count_60 : decode b_Q_count 60 = .ok (.aload_n 0, 1) := by decide +kernel
theorem d_Q_count_61 : decode b_Q_count 61 = .ok (.getfield 35, 3) := by decide +kernel
theorem d_Q_count_64 : decode b_Q_count 64 = .ok (.getfield 186, 3) := by decide +kernel
theorem d_Q_count_67 : decode b_Q_count 67 = .ok (.ireturn, 1) := by decide +kernel
theorem d_Q_count_68 : decode b_Q_count 68 = .ok (.aload_n 0, 1) := by decide +kernel
theorem d_Q_count_69 : decode b_Q_count 69 = .ok (.getfield 35, 3) := by decide +kernel
theorem d_Q_count_72 : decode b_Q_count 72 = .ok (.getfield 189, 3) := by decide +kernel
theorem d_Q_count_75 : decode b_Q_count 75 = .ok (.ireturn, 1) := by decide +kernel
theorem d_Q_count_76 : decode b_Q_count 76 = .ok (.aload_n 0, 1) := by decide +kernel
theorem d_Q_count_77 : decode b_Q_count 77 = .ok (.getfield 35, 3) := by decide +kernel
theorem d_Q_count_80 : decode b_Q_count 80 = .ok (.getfield 192, 3) := by decide +kernel
theorem d_Q_count_83 : decode b_Q_count 83 = .ok (.ireturn, 1) := by decide +kernel
theorem d_Q_count_84 : decode b_Q_count 84 = .ok (.aload_n 0, 1) := by decide +kernel
theorem d_Q_count_85 : decode b_Q_count 85 = .ok (.getfield 35, 3) := by decide +kernel
theorem d_Q_count_88 : decode b_Q_count 88 = .ok (.getfield 195, 3) := by decide +kernel
theorem d_Q_count_91 : decode b_Q_count 91 = .ok (.ireturn, 1) := by decide +kernel
theorem d_Q_count_92 : decode b_Q_count 92 = .ok (.aload_n 0, 1) := by decide +kernel
theorem d_Q_count_93 : decode b_Q_count 93 = .ok (.getfield 44, 3) := by decide +kernel
theorem d_Q_count_96 : decode b_Q_count 96 = .ok (.getfield 198, 3) := by decide +kernel
theorem d_Q_count_99 : decode b_Q_count 99 = .ok (.ireturn, 1) := by decide +kernel
theorem d_Q_count_100 : decode b_Q_count 100 = .ok (.new 61, 3) := by decide +kernel
theorem d_Q_count_103 : decode b_Q_count 103 = .ok (.dup, 1) := by decide +kernel
theorem d_Q_count_104 : decode b_Q_count 104 = .ok (.ldc 201, 2) := by decide +kernel
theorem d_Q_count_106 : decode b_Q_count 106 = .ok (.invokespecial 65, 3) := by decide +kernel
theorem d_Q_count_109 : decode b_Q_count 109 = .ok (.athrow, 1) := by decide +kernel
def f_Q_count (g : Sg) (a1 : Int32) : Option ((String × Sg) ⊕ (Int32 × Sg)) := (if a1 = 0 then (qs_bn (f_E_number g ) fun r2 u3 => (some (.inr (r2, u3)))) else (if a1 = 1 then (some (.inr (g 20 0, g))) else (if a1 = 2 then (some (.inr (g 23 0, g))) else (if a1 = 3 then (some (.inr (g 25 0, g))) else (if a1 = 4 then (some (.inr (g 24 0, g))) else (if a1 = 5 then (some (.inr (g 26 0, g))) else (if a1 = 6 then (some (.inr (g 27 0, g))) else (some (.inl ("java/lang/IllegalArgumentException", g))))))))))
set_option maxHeartbeats 4000000 in
set_option maxRecDepth 100000 in
theorem c_Q_count (l : Launch) (hl9 : l.stackTraces = false) (dC : Nat → ClassId) (dI : Nat → Nat → Nat) (h : Nat → Nat) (c : Nat → ClassId) (sz : Nat) (sa201 : Nat) (g : Sg) (a1 : Int32) (r0 : ((String × Sg) ⊕ (Int32 × Sg))) (hF : f_Q_count g a1 = some r0) : vx_Met l y_Q_count (qs_ws y_Q_count b_Q_count 2 (some .int)) ({ frames := 6, cells := 1, slots := 6, locals := 82 } : Room) (va_Pc ([.ref (h 0), .int a1] : List Value) (fun U => U.heap.size = sz ∧ va_P (dC, dI) vwCl (qs_W h c g) U.heap ∧ va_K (dC, dI) vwCl (qs_T c) U ∧ va_D (fun _ => True) (qs_W h c g) ∧ qs_N U ∧ vx_Zq Bundle.tN "UNASSIGNED_STACK" Bundle.steD (va_A (qs_W h c g) sz) U U.heap ∧ vx_Zq Bundle.tN "SUPPRESSED_SENTINEL" Bundle.listD (va_A (qs_W h c g) sz) U U.heap ∧ vk_R R_Q 201 "nothing of that number is counted" sa201 U)) (va_Qi (fun (r : Int32) (u : Sg) => r0 = .inr (r, u)) (qs_at dC dI h c (va_A (qs_W h c g) sz)) (va_A (qs_W h c g) sz)) (vx_X (fun (_ : Sg) => True) (fun E u t => (r0 = .inl (E, u) ∧ E ∈ (["java/lang/IllegalArgumentException"] : List String)) ∧ qs_at dC dI h c (va_A (qs_W h c g) sz) u t) (va_A (qs_W h c g) sz)) 1 6 (va_A (qs_W h c g) sz) := by
  refine vx_ofW (cc := b_Q_count) (maxL := 2) (ret := (some .int)) (by decide +kernel) rfl ?_
  intro p e s m args below meth cd s₁ B hml ht hv
  obtain ⟨rfl, hsz, hP, hK, hD0, hNs, hU, hN, hs201⟩ := hv
  have hx := B.exec
  have hb := B.bytes
  have hr := B.returns
  have hts := atoms_spec (ws := (qs_ws y_Q_count b_Q_count 2 (some .int))) B.pre
  have hg : ∀ w ∈ qs_gt, w.before _ s = true := fun w h => hts w (List.mem_cons_of_mem _ h)
  have hown : s.vm.findClass R_Q = some m.cls := findClass_of_methodNamed B.named
  have hlocks := B.notSynchronized
  subst hsz
  have hD := hD0.self (sz := s.heap.size)
  generalize hAe : va_A (qs_W h c g) s.heap.size = A at hD hU hN ⊢
  have hA : ∀ q : Nat, s.heap.size ≤ q → A q := fun q h => by rw [← hAe]; exact Or.inr h
  have hS : va_S A s.heap s.heap [] := va_S.rf
  have hl := lv_entry ([.ref (h 0), .int a1] : List Value) (n := 2) (Nat.le_of_ble_eq_true rfl)
  rw [lg_entry_eq]
  generalize (lg_sl ([.ref (h 0), .int a1] : List Value) ++ List.replicate (2 - (lg_sl ([.ref (h 0), .int a1] : List Value)).length) Slot.unset).toArray = ls at hl ⊢
  have hl : lv_has ls 2 [(0, .ref (h 0)), (1, .int (a1))] := hl
  unfold f_Q_count at hF
  obtain ⟨H, hHe⟩ : ∃ H, H = s.heap := ⟨_, rfl⟩
  obtain ⟨locs, hLe⟩ : ∃ L : List Loc, L = [] := ⟨_, rfl⟩
  rw [← hHe] at hP ⊢
  rw [← hLe]
  have hS : va_S A s.heap H locs := by rw [hHe, hLe]; exact hS
  refine lv_iload_n hx hb d_Q_count_0 rfl (lv_at hl 1 rfl) ?_
  by_cases c1 : a1 = 0
  · have hF := qs_pos c1 hF
    refine lv_tableIn (tgt := 44) hx hb d_Q_count_1 (by rw [c1]; decide) (by rw [c1]; decide) (by rw [c1]; rfl) (by decide) ?_
    refine lv_aload_n hx hb d_Q_count_44 rfl (lv_at hl 0 rfl) ?_
    refine va_get (D := (dC, dI)) (ci := 6) (v := .ref (h 1)) (C := R_Q) (T := T_Q) (N := 6) hx hb hg in_Q hown hK hP 0 rfl rfl 0 (by decide) (hg _ t_156) (fun _ h9 => h9) rfl d_Q_count_45 ?_
    obtain ⟨r2, u3, hX, hF⟩ := qs_bn_some hF
    refine qs_ci (Wd := qs_W h c) (isC := [0, 1, 2, 3, 4, 5, 6, 7, 8, 9, 10, 11, 12, 13, 14, 15, 16]) (va_runV (own := "QuakeServer") (C := "QuakeServer$Entities") (As := []) (rest := []) ⟨hx, hb, hml, hown, hg⟩ (c_E_number l dC dI h c H.size g  r2 u3 hX) (cwV 0 hg (qs_gV t_588 t_589 t_590 t_2 t_591) rfl rfl rfl (by decide +kernel) ⟨Nat.le_of_ble_eq_true rfl, Nat.le_of_ble_eq_true rfl⟩) ⟨qs_blind, va_recv hK hP (ci := 0) (q0 := 1) rfl rfl, fun U hU hW => ⟨rfl, by rw [hU], by rw [hU]; exact hP, va_K.moved hW.alike hK, hD.weaken (fun _ _ _ _ => trivial), hNs.warm hW⟩⟩ rfl rfl hl.1 rfl (lv_room (Nat.le_of_ble_eq_true rfl)) d_Q_count_48 ⟨Nat.le_of_ble_eq_true rfl, Nat.le_of_ble_eq_true rfl⟩) rfl hP hD hS hA (fun H locs hP hD hS => ?_)
    have h9 := Option.some.inj hF
    refine vx_ret ?_
    refine W.widen (k := 1) (n := 6) (Nat.le_of_ble_eq_true rfl) (Nat.le_of_ble_eq_true rfl) ?_
    exact W.iret (v := r2) hx hb hr (fun t ht hW => ⟨⟨r2, u3, rfl, h9.symm, by rw [ht]; exact hP, va_K.moved hW.alike hK, hD⟩, hS.F ht⟩) hS.2.2 d_Q_count_51
  have hF := qs_neg c1 hF
  by_cases c4 : a1 = 1
  · have hF := qs_pos c4 hF
    refine lv_tableIn (tgt := 52) hx hb d_Q_count_1 (by rw [c4]; decide) (by rw [c4]; decide) (by rw [c4]; rfl) (by decide) ?_
    refine lv_aload_n hx hb d_Q_count_52 rfl (lv_at hl 0 rfl) ?_
    refine va_get (D := (dC, dI)) (ci := 6) (v := .ref (h 2)) (C := R_Q) (T := T_Q) (N := 6) hx hb hg in_Q hown hK hP 0 rfl rfl 1 (by decide) (hg _ t_157) (fun _ h9 => h9) rfl d_Q_count_53 ?_
    refine va_getN (D := (dC, dI)) (ci := 1) (v := .int (g 20 0)) (C := R_W) (T := T_W) (N := 3) hx hb hg in_W hown hK hP 2 rfl rfl 2 (by decide) (va_Nw.use rfl (nF_0 hNs)) (fun _ h9 => h9) rfl d_Q_count_56 ?_
    have h9 := Option.some.inj hF
    refine vx_ret ?_
    refine W.widen (k := 1) (n := 6) (Nat.le_of_ble_eq_true rfl) (Nat.le_of_ble_eq_true rfl) ?_
    exact W.iret (v := g 20 0) hx hb hr (fun t ht hW => ⟨⟨(g 20 0), g, rfl, h9.symm, by rw [ht]; exact hP, va_K.moved hW.alike hK, hD⟩, hS.F ht⟩) hS.2.2 d_Q_count_59
  have hF := qs_neg c4 hF
  by_cases c5 : a1 = 2
  · have hF := qs_pos c5 hF
    refine lv_tableIn (tgt := 60) hx hb d_Q_count_1 (by rw [c5]; decide) (by rw [c5]; decide) (by rw [c5]; rfl) (by decide) ?_
    refine lv_aload_n hx hb d_Q_count_60 rfl (lv_at hl 0 rfl) ?_
    refine va_get (D := (dC, dI)) (ci := 6) (v := .ref (h 4)) (C := R_Q) (T := T_Q) (N := 6) hx hb hg in_Q hown hK hP 0 rfl rfl 3 (by decide) (hg _ t_159) (fun _ h9 => h9) rfl d_Q_count_61 ?_
    refine va_getN (D := (dC, dI)) (ci := 3) (v := .int (g 23 0)) (C := R_M) (T := T_M) (N := 11) hx hb hg in_M hown hK hP 4 rfl rfl 7 (by decide) (va_Nw.use rfl (nF_5 hNs)) (fun _ h9 => h9) rfl d_Q_count_64 ?_
    have h9 := Option.some.inj hF
    refine vx_ret ?_
    refine W.widen (k := 1) (n := 6) (Nat.le_of_ble_eq_true rfl) (Nat.le_of_ble_eq_true rfl) ?_
    exact W.iret (v := g 23 0) hx hb hr (fun t ht hW => ⟨⟨(g 23 0), g, rfl, h9.symm, by rw [ht]; exact hP, va_K.moved hW.alike hK, hD⟩, hS.F ht⟩) hS.2.2 d_Q_count_67
  have hF := qs_neg c5 hF
  by_cases c6 : a1 = 3
  · have hF := qs_pos c6 hF
    refine lv_tableIn (tgt := 68) hx hb d_Q_count_1 (by rw [c6]; decide) (by rw [c6]; decide) (by rw [c6]; rfl) (by decide) ?_
    refine lv_aload_n hx hb d_Q_count_68 rfl (lv_at hl 0 rfl) ?_
    refine va_get (D := (dC, dI)) (ci := 6) (v := .ref (h 4)) (C := R_Q) (T := T_Q) (N := 6) hx hb hg in_Q hown hK hP 0 rfl rfl 3 (by decide) (hg _ t_159) (fun _ h9 => h9) rfl d_Q_count_69 ?_
    refine va_getN (D := (dC, dI)) (ci := 3) (v := .int (g 25 0)) (C := R_M) (T := T_M) (N := 11) hx hb hg in_M hown hK hP 4 rfl rfl 9 (by decide) (va_Nw.use rfl (nF_7 hNs)) (fun _ h9 => h9) rfl d_Q_count_72 ?_
    have h9 := Option.some.inj hF
    refine vx_ret ?_
    refine W.widen (k := 1) (n := 6) (Nat.le_of_ble_eq_true rfl) (Nat.le_of_ble_eq_true rfl) ?_
    exact W.iret (v := g 25 0) hx hb hr (fun t ht hW => ⟨⟨(g 25 0), g, rfl, h9.symm, by rw [ht]; exact hP, va_K.moved hW.alike hK, hD⟩, hS.F ht⟩) hS.2.2 d_Q_count_75
  have hF := qs_neg c6 hF
  by_cases c7 : a1 = 4
  · have hF := qs_pos c7 hF
    refine lv_tableIn (tgt := 76) hx hb d_Q_count_1 (by rw [c7]; decide) (by rw [c7]; decide) (by rw [c7]; rfl) (by decide) ?_
    refine lv_aload_n hx hb d_Q_count_76 rfl (lv_at hl 0 rfl) ?_
    refine va_get (D := (dC, dI)) (ci := 6) (v := .ref (h 4)) (C := R_Q) (T := T_Q) (N := 6) hx hb hg in_Q hown hK hP 0 rfl rfl 3 (by decide) (hg _ t_159) (fun _ h9 => h9) rfl d_Q_count_77 ?_
    refine va_getN (D := (dC, dI)) (ci := 3) (v := .int (g 24 0)) (C := R_M) (T := T_M) (N := 11) hx hb hg in_M hown hK hP 4 rfl rfl 8 (by decide) (va_Nw.use rfl (nF_6 hNs)) (fun _ h9 => h9) rfl d_Q_count_80 ?_
    have h9 := Option.some.inj hF
    refine vx_ret ?_
    refine W.widen (k := 1) (n := 6) (Nat.le_of_ble_eq_true rfl) (Nat.le_of_ble_eq_true rfl) ?_
    exact W.iret (v := g 24 0) hx hb hr (fun t ht hW => ⟨⟨(g 24 0), g, rfl, h9.symm, by rw [ht]; exact hP, va_K.moved hW.alike hK, hD⟩, hS.F ht⟩) hS.2.2 d_Q_count_83
  have hF := qs_neg c7 hF
  by_cases c8 : a1 = 5
  · have hF := qs_pos c8 hF
    refine lv_tableIn (tgt := 84) hx hb d_Q_count_1 (by rw [c8]; decide) (by rw [c8]; decide) (by rw [c8]; rfl) (by decide) ?_
    refine lv_aload_n hx hb d_Q_count_84 rfl (lv_at hl 0 rfl) ?_
    refine va_get (D := (dC, dI)) (ci := 6) (v := .ref (h 4)) (C := R_Q) (T := T_Q) (N := 6) hx hb hg in_Q hown hK hP 0 rfl rfl 3 (by decide) (hg _ t_159) (fun _ h9 => h9) rfl d_Q_count_85 ?_
    refine va_getN (D := (dC, dI)) (ci := 3) (v := .int (g 26 0)) (C := R_M) (T := T_M) (N := 11) hx hb hg in_M hown hK hP 4 rfl rfl 10 (by decide) (va_Nw.use rfl (nF_8 hNs)) (fun _ h9 => h9) rfl d_Q_count_88 ?_
    have h9 := Option.some.inj hF
    refine vx_ret ?_
    refine W.widen (k := 1) (n := 6) (Nat.le_of_ble_eq_true rfl) (Nat.le_of_ble_eq_true rfl) ?_
    exact W.iret (v := g 26 0) hx hb hr (fun t ht hW => ⟨⟨(g 26 0), g, rfl, h9.symm, by rw [ht]; exact hP, va_K.moved hW.alike hK, hD⟩, hS.F ht⟩) hS.2.2 d_Q_count_91
  have hF := qs_neg c8 hF
  by_cases c9 : a1 = 6
  · have hF := qs_pos c9 hF
    refine lv_tableIn (tgt := 92) hx hb d_Q_count_1 (by rw [c9]; decide) (by rw [c9]; decide) (by rw [c9]; rfl) (by decide) ?_
    refine lv_aload_n hx hb d_Q_count_92 rfl (lv_at hl 0 rfl) ?_
    refine va_get (D := (dC, dI)) (ci := 6) (v := .ref (h 5)) (C := R_Q) (T := T_Q) (N := 6) hx hb hg in_Q hown hK hP 0 rfl rfl 4 (by decide) (hg _ t_160) (fun _ h9 => h9) rfl d_Q_count_93 ?_
    refine va_getN (D := (dC, dI)) (ci := 4) (v := .int (g 27 0)) (C := R_V) (T := T_V) (N := 6) hx hb hg in_V hown hK hP 5 rfl rfl 3 (by decide) (va_Nw.use rfl (nF_9 hNs)) (fun _ h9 => h9) rfl d_Q_count_96 ?_
    have h9 := Option.some.inj hF
    refine vx_ret ?_
    refine W.widen (k := 1) (n := 6) (Nat.le_of_ble_eq_true rfl) (Nat.le_of_ble_eq_true rfl) ?_
    exact W.iret (v := g 27 0) hx hb hr (fun t ht hW => ⟨⟨(g 27 0), g, rfl, h9.symm, by rw [ht]; exact hP, va_K.moved hW.alike hK, hD⟩, hS.F ht⟩) hS.2.2 d_Q_count_99
  have hF := qs_neg c9 hF
  refine lv_tableOut (tgt := 100) hx hb d_Q_count_1 (by have := lv_neT (a := 0) c1 (by decide); have := lv_neT (a := 1) c4 (by decide); have := lv_neT (a := 2) c5 (by decide); have := lv_neT (a := 3) c6 (by decide); have := lv_neT (a := 4) c7 (by decide); have := lv_neT (a := 5) c8 (by decide); have := lv_neT (a := 6) c9 (by decide); omega) (by decide) ?_
  have h9 := Option.some.inj hF
  exact vx_throwS (text := "nothing of that number is counted") (names := ["java/lang/RuntimeException", "java/lang/Exception"]) hx hb hl9 hown (by decide +kernel) (by decide +kernel) (hg _ t_215) (hg _ t_12) hs201 (ha_Q_65 hg hNs) hd_Q_65 hU hN hS (hl.1.trans hml.symm) d_Q_count_100 d_Q_count_103 d_Q_count_104 d_Q_count_106 d_Q_count_109 (fun x h => (ht x h).elim) (Nat.le_of_ble_eq_true rfl) (Nat.le_of_ble_eq_true rfl) (Nat.le_of_ble_eq_true rfl) (Nat.le_of_ble_eq_true rfl) hlocks (fun t hvm hz hk => ⟨g, trivial, ⟨⟨h9.symm, by decide⟩, hP.kept (fun k q hq => hk q.1 (hP k q hq).lt), va_K.moved hvm hK, hD⟩, qs_F hS hz hk⟩) hS.2.2 (Nat.le_refl _) (Nat.le_refl _)
