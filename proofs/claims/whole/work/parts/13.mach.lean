theorem d_M_advanceTime_0 : decode b_M_advanceTime 0 = .ok (.aload_n 0, 1) := by decide +kernel
theorem d_M_advanceTime_1 : decode b_M_advanceTime 1 = .ok (.aload_n 0, 1) := by decide +kernel
theorem d_M_advanceTime_2 : decode b_M_advanceTime 2 = .ok (.getfield 33, 3) := by decide +kernel
theorem d_M_advanceTime_5 : decode b_M_advanceTime 5 = .ok (.i2l, 1) := by decide +kernel
theorem d_M_advanceTime_6 : decode b_M_advanceTime 6 = .ok (.lconst 1, 1) := by decide +kernel
theorem d_M_advanceTime_7 : decode b_M_advanceTime 7 = .ok (.ladd, 1) := by decide +kernel
theorem d_M_advanceTime_8 : decode b_M_advanceTime 8 = .ok (.invokestatic 36, 3) := by decide +kernel
theorem d_M_advanceTime_11 : decode b_M_advanceTime 11 = .ok (.putfield 33, 3) := by decide +kernel
theorem d_M_advanceTime_14 : decode b_M_advanceTime 14 = .ok (.return_, 1) := by decide +kernel
def f_M_advanceTime (g : Sg)  : Option (Unit × Sg) := (qs_pb (f_Q_inRange (((g 23 0).toInt64) + (1 : Int64))) fun r1 => (qs_st (qs_i g 23 (r1)) fun u2 => (some ((), u2))))
set_option maxHeartbeats 4000000 in
set_option maxRecDepth 100000 in
theorem c_M_advanceTime (l : Launch) (dC : Nat → ClassId) (dI : Nat → Nat → Nat) (h : Nat → Nat) (c : Nat → ClassId) (sz : Nat) (g : Sg)  (u0 : Sg) (hF : f_M_advanceTime g  = some ((), u0)) : Met l y_M_advanceTime (qs_ws y_M_advanceTime b_M_advanceTime 1 none) ({ frames := 1, cells := 0, slots := 0, locals := 21 } : Room) (va_Pc ([.ref (h 4)] : List Value) (fun U => U.heap.size = sz ∧ va_P (dC, dI) vwCl (qs_W h c g) U.heap ∧ va_K (dC, dI) vwCl (qs_T c) U ∧ va_D (fun _ => True) (qs_W h c g) ∧ qs_N U)) (va_Qv (fun (u : Sg) => u = u0) (qs_at dC dI h c (va_A (qs_W h c g) sz)) (va_A (qs_W h c g) sz)) 0 0 (va_A (qs_W h c g) sz) := by
  refine Met.ofW (cc := b_M_advanceTime) (maxL := 1) (ret := none) (by decide +kernel) rfl ?_
  intro p e s m args below meth cd s₁ B hml hv
  obtain ⟨rfl, hsz, hP, hK, hD0, hNs⟩ := hv
  have hx := B.exec
  have hb := B.bytes
  have hr := B.returns
  have hts := atoms_spec (ws := (qs_ws y_M_advanceTime b_M_advanceTime 1 none)) B.pre
  have hg : ∀ w ∈ qs_gt, w.before _ s = true := fun w h => hts w (List.mem_cons_of_mem _ h)
  have hown : s.vm.findClass R_M = some m.cls := findClass_of_methodNamed B.named
  have hlocks := B.notSynchronized
  subst hsz
  have hD := hD0.self (sz := s.heap.size)
  generalize hAe : va_A (qs_W h c g) s.heap.size = A at hD ⊢
  have hA : ∀ q : Nat, s.heap.size ≤ q → A q := fun q h => by rw [← hAe]; exact Or.inr h
  have hS : va_S A s.heap s.heap [] := va_S.rf
  have hl := lv_entry ([.ref (h 4)] : List Value) (n := 1) (Nat.le_of_ble_eq_true rfl)
  rw [lg_entry_eq]
  generalize (lg_sl ([.ref (h 4)] : List Value) ++ List.replicate (1 - (lg_sl ([.ref (h 4)] : List Value)).length) Slot.unset).toArray = ls at hl ⊢
  have hl : lv_has ls 1 [(0, .ref (h 4))] := hl
  unfold f_M_advanceTime at hF
  obtain ⟨H, hHe⟩ : ∃ H, H = s.heap := ⟨_, rfl⟩
  obtain ⟨locs, hLe⟩ : ∃ L : List Loc, L = [] := ⟨_, rfl⟩
  rw [← hHe] at hP ⊢
  rw [← hLe]
  have hS : va_S A s.heap H locs := by rw [hHe, hLe]; exact hS
  refine lv_aload_n hx hb d_M_advanceTime_0 rfl (lv_at hl 0 rfl) ?_
  refine lv_aload_n hx hb d_M_advanceTime_1 rfl (lv_at hl 0 rfl) ?_
  refine va_get (D := (dC, dI)) (ci := 3) (v := .int (g 23 0)) (C := R_M) (T := T_M) (N := 11) hx hb hg in_M hown hK hP 4 rfl rfl 7 (by decide) (hg _ t_85) (fun _ h9 => h9) rfl d_M_advanceTime_2 ?_
  refine lv_i2l (v := (g 23 0).toInt64) hx hb d_M_advanceTime_5 rfl ?_
  refine lv_lconst (v := 1) hx hb d_M_advanceTime_6 (by decide) ?_
  refine lv_ladd hx hb d_M_advanceTime_7 ?_
  obtain ⟨r1, hX, hF⟩ := qs_pb_some hF
  refine qs_psi (va_runSN (own := "QuakeServer$Machine") (As := [.long (((g 23 0).toInt64) + (1 : Int64))]) (rest := [.ref (h 4)]) ⟨hx, hb, hml, hown, hg⟩ (c_Q_inRange l H.size (((g 23 0).toInt64) + (1 : Int64)) r1 hX) ⟨va_cnB (own := "QuakeServer$Machine") (index := 36) (host := "QuakeServer") 1 hg (qs_gc t_471) rfl rfl rfl (nM_6 hNs) (hg _ t_1) (by decide +kernel) ⟨Nat.le_of_ble_eq_true rfl, Nat.le_of_ble_eq_true rfl⟩, hg _ t_470, trivial⟩ ⟨qs_blind0, fun U hU hW => ⟨rfl, by rw [hU], hNs.warm hW⟩⟩ rfl rfl hl.1 rfl (lv_room (Nat.le_of_ble_eq_true rfl)) d_M_advanceTime_8 ⟨Nat.le_of_ble_eq_true rfl, Nat.le_of_ble_eq_true rfl⟩) hP hD hS hA (fun H locs hP hS => ?_)
  refine va_put (D := (dC, dI)) (ci := 3) (v := .int (r1)) (ty := .int) (C := R_M) (T := T_M) (N := 11) hx hb hg in_M ty_M ty_M_ok nm_M hown hK hP hD hS 4 rfl rfl 7 (by decide) (hg _ t_85) (fun _ h9 => h9) rfl (by decide +kernel) rfl rfl (Nat.le_of_ble_eq_true rfl) d_M_advanceTime_11 (fun H locs hP hD hS => ?_)
  obtain ⟨u2, hu2, hF⟩ := qs_st_some hF
  have hP : va_P (dC, dI) vwCl (qs_W h c u2) H := by rw [hu2]; exact hP
  have hD : va_D A (qs_W h c u2) := by rw [hu2]; exact hD
  clear hu2
  obtain ⟨h8, h9⟩ := qs_ret hF
  exact W.vret hx hb hr (fun t ht hW => ⟨⟨u2, rfl, h9, by rw [ht]; exact hP, va_K.moved hW.alike hK, hD⟩, hS.F ht⟩) hS.2.2 d_M_advanceTime_14

theorem d_M_leaveEndedFunctions_0 : decode b_M_leaveEndedFunctions 0 = .ok (.aload_n 0, 1) := by decide +kernel
theorem d_M_leaveEndedFunctions_1 : decode b_M_leaveEndedFunctions 1 = .ok (.getfield 51, 3) := by decide +kernel
theorem d_M_leaveEndedFunctions_4 : decode b_M_leaveEndedFunctions 4 = .ok (.ifCond .lt 44, 3) := by decide +kernel
theorem d_M_leaveEndedFunctions_7 : decode b_M_leaveEndedFunctions 7 = .ok (.aload_n 0, 1) := by decide +kernel
theorem d_M_leaveEndedFunctions_8 : decode b_M_leaveEndedFunctions 8 = .ok (.getfield 18, 3) := by decide +kernel
theorem d_M_leaveEndedFunctions_11 : decode b_M_leaveEndedFunctions 11 = .ok (.aload_n 0, 1) := by decide +kernel
theorem d_M_leaveEndedFunctions_12 : decode b_M_leaveEndedFunctions 12 = .ok (.getfield 51, 3) := by decide +kernel
theorem d_M_leaveEndedFunctions_15 : decode b_M_leaveEndedFunctions 15 = .ok (.iaload, 1) := by decide +kernel
theorem d_M_leaveEndedFunctions_16 : decode b_M_leaveEndedFunctions 16 = .ok (.aload_n 0, 1) := by decide +kernel
theorem d_M_leaveEndedFunctions_17 : decode b_M_leaveEndedFunctions 17 = .ok (.getfield 29, 3) := by decide +kernel
theorem d_M_leaveEndedFunctions_20 : decode b_M_leaveEndedFunctions 20 = .ok (.aload_n 0, 1) := by decide +kernel
theorem d_M_leaveEndedFunctions_21 : decode b_M_leaveEndedFunctions 21 = .ok (.getfield 15, 3) := by decide +kernel
theorem d_M_leaveEndedFunctions_24 : decode b_M_leaveEndedFunctions 24 = .ok (.aload_n 0, 1) := by decide +kernel
theorem d_M_leaveEndedFunctions_25 : decode b_M_leaveEndedFunctions 25 = .ok (.getfield 51, 3) := by decide +kernel
theorem d_M_leaveEndedFunctions_28 : decode b_M_leaveEndedFunctions 28 = .ok (.iaload, 1) := by decide +kernel
theorem d_M_leaveEndedFunctions_29 : decode b_M_leaveEndedFunctions 29 = .ok (.invokevirtual 67, 3) := by decide +kernel
theorem d_M_leaveEndedFunctions_32 : decode b_M_leaveEndedFunctions 32 = .ok (.if_icmp .lt 16, 3) := by decide +kernel
theorem d_M_leaveEndedFunctions_35 : decode b_M_leaveEndedFunctions 35 = .ok (.aload_n 0, 1) := by decide +kernel
theorem d_M_leaveEndedFunctions_36 : decode b_M_leaveEndedFunctions 36 = .ok (.dup, 1) := by decide +kernel
theorem d_M_leaveEndedFunctions_37 : decode b_M_leaveEndedFunctions 37 = .ok (.getfield 51, 3) := by decide +kernel
theorem d_M_leaveEndedFunctions_40 : decode b_M_leaveEndedFunctions 40 = .ok (.iconst 1, 1) := by decide +kernel
theorem d_M_leaveEndedFunctions_41 : decode b_M_leaveEndedFunctions 41 = .ok (.isub, 1) := by decide +kernel
theorem d_M_leaveEndedFunctions_42 : decode b_M_leaveEndedFunctions 42 = .ok (.putfield 51, 3) := by decide +kernel
theorem d_M_leaveEndedFunctions_45 : decode b_M_leaveEndedFunctions 45 = .ok (.goto (-45), 3) := by decide +kernel
theorem d_M_leaveEndedFunctions_48 : decode b_M_leaveEndedFunctions 48 = .ok (.return_, 1) := by decide +kernel
def f_M_leaveEndedFunctions_0  : Nat → Sg → Option (Unit × Sg)
  | 0, _ => none
  | n + 1, g => (if (g 21 0) < 0 then (some ((), g)) else (qs_in (g 21 0) 6 (qs_in (g 21 0) 6 (qs_bn (f_P_length g (g 14 (g 21 0).toNatClampNeg)) fun r4 u5 => (if (g 15 (g 21 0).toNatClampNeg) < r4 then (some ((), u5)) else (qs_st (qs_i u5 21 ((u5 21 0) - 1)) fun u7 => (f_M_leaveEndedFunctions_0 n u7)))))))
def f_M_leaveEndedFunctions (g : Sg)  : Option (Unit × Sg) := (f_M_leaveEndedFunctions_0 200 g)
set_option maxHeartbeats 4000000 in
set_option maxRecDepth 100000 in
theorem c_M_leaveEndedFunctions (l : Launch) (dC : Nat → ClassId) (dI : Nat → Nat → Nat) (h : Nat → Nat) (c : Nat → ClassId) (sz : Nat) (g : Sg)  (u0 : Sg) (hF : f_M_leaveEndedFunctions g  = some ((), u0)) : Met l y_M_leaveEndedFunctions (qs_ws y_M_leaveEndedFunctions b_M_leaveEndedFunctions 1 none) ({ frames := 1, cells := 0, slots := 0, locals := 21 } : Room) (va_Pc ([.ref (h 4)] : List Value) (fun U => U.heap.size = sz ∧ va_P (dC, dI) vwCl (qs_W h c g) U.heap ∧ va_K (dC, dI) vwCl (qs_T c) U ∧ va_D (fun _ => True) (qs_W h c g) ∧ qs_N U)) (va_Qv (fun (u : Sg) => u = u0) (qs_at dC dI h c (va_A (qs_W h c g) sz)) (va_A (qs_W h c g) sz)) 0 0 (va_A (qs_W h c g) sz) := by
  refine Met.ofW (cc := b_M_leaveEndedFunctions) (maxL := 1) (ret := none) (by decide +kernel) rfl ?_
  intro p e s m args below meth cd s₁ B hml hv
  obtain ⟨rfl, hsz, hP, hK, hD0, hNs⟩ := hv
  have hx := B.exec
  have hb := B.bytes
  have hr := B.returns
  have hts := atoms_spec (ws := (qs_ws y_M_leaveEndedFunctions b_M_leaveEndedFunctions 1 none)) B.pre
  have hg : ∀ w ∈ qs_gt, w.before _ s = true := fun w h => hts w (List.mem_cons_of_mem _ h)
  have hown : s.vm.findClass R_M = some m.cls := findClass_of_methodNamed B.named
  have hlocks := B.notSynchronized
  subst hsz
  have hD := hD0.self (sz := s.heap.size)
  generalize hAe : va_A (qs_W h c g) s.heap.size = A at hD ⊢
  have hA : ∀ q : Nat, s.heap.size ≤ q → A q := fun q h => by rw [← hAe]; exact Or.inr h
  have hS : va_S A s.heap s.heap [] := va_S.rf
  have kb_0 : ∀ n : Nat, ∀ (g : Sg) (H : Heap) (locs : List Loc) (ls : Array Slot), va_P (dC, dI) vwCl (qs_W h c g) H → va_D A (qs_W h c g) → va_S A s.heap H locs → lv_has ls 1 [(0, .ref (h 4))] → f_M_leaveEndedFunctions_0 n g = some ((), u0) → W p l e (headSpec (qs_ws y_M_leaveEndedFunctions b_M_leaveEndedFunctions 1 none) ({ frames := 1, cells := 0, slots := 0, locals := 21 } : Room)).room s m ([.ref (h 4)] : List Value).toArray below meth cd H locs 0 0 (MQ below (va_Qv (fun (u : Sg) => u = u0) (qs_at dC dI h c A) A) ([.ref (h 4)] : List Value).toArray s 0 0 A) (F0 m 0 ls []) := by
    intro n
    induction n with
    | zero =>
      intro g H locs ls hP hD hS hl hF
      exact nomatch (show (none : Option (Unit × Sg)) = some _ from hF)
    | succ n ih =>
      intro g H locs ls hP hD hS hl hF
      rw [f_M_leaveEndedFunctions_0] at hF
      refine lv_aload_n hx hb d_M_leaveEndedFunctions_0 rfl (lv_at hl 0 rfl) ?_
      refine va_get (D := (dC, dI)) (ci := 3) (v := .int (g 21 0)) (C := R_M) (T := T_M) (N := 11) hx hb hg in_M hown hK hP 4 rfl rfl 5 (by decide) (hg _ t_83) (fun _ h9 => h9) rfl d_M_leaveEndedFunctions_1 ?_
      refine lv_if_lt (tgt := 48) hx hb d_M_leaveEndedFunctions_4 (by decide) (fun c1 => ?_) (fun c1 => ?_)
      · have hF := qs_pos c1 hF
        obtain ⟨h8, h9⟩ := qs_ret hF
        exact W.vret hx hb hr (fun t ht hW => ⟨⟨g, rfl, h9, by rw [ht]; exact hP, va_K.moved hW.alike hK, hD⟩, hS.F ht⟩) hS.2.2 d_M_leaveEndedFunctions_48
      · have hF := qs_neg c1 hF
        refine lv_aload_n hx hb d_M_leaveEndedFunctions_7 rfl (lv_at hl 0 rfl) ?_
        refine va_get (D := (dC, dI)) (ci := 3) (v := .ref (h 15)) (C := R_M) (T := T_M) (N := 11) hx hb hg in_M hown hK hP 4 rfl rfl 4 (by decide) (hg _ t_82) (fun _ h9 => h9) rfl d_M_leaveEndedFunctions_8 ?_
        refine lv_aload_n hx hb d_M_leaveEndedFunctions_11 rfl (lv_at hl 0 rfl) ?_
        refine va_get (D := (dC, dI)) (ci := 3) (v := .int (g 21 0)) (C := R_M) (T := T_M) (N := 11) hx hb hg in_M hown hK hP 4 rfl rfl 5 (by decide) (hg _ t_83) (fun _ h9 => h9) rfl d_M_leaveEndedFunctions_12 ?_
        obtain ⟨c2, hF⟩ := qs_in_some hF
        refine va_iald hx hb hK hP 15 8 rfl rfl c2 d_M_leaveEndedFunctions_15 ?_
        refine lv_aload_n hx hb d_M_leaveEndedFunctions_16 rfl (lv_at hl 0 rfl) ?_
        refine va_get (D := (dC, dI)) (ci := 3) (v := .ref (h 3)) (C := R_M) (T := T_M) (N := 11) hx hb hg in_M hown hK hP 4 rfl rfl 1 (by decide) (hg _ t_78) (fun _ h9 => h9) rfl d_M_leaveEndedFunctions_17 ?_
        refine lv_aload_n hx hb d_M_leaveEndedFunctions_20 rfl (lv_at hl 0 rfl) ?_
        refine va_get (D := (dC, dI)) (ci := 3) (v := .ref (h 14)) (C := R_M) (T := T_M) (N := 11) hx hb hg in_M hown hK hP 4 rfl rfl 3 (by decide) (hg _ t_81) (fun _ h9 => h9) rfl d_M_leaveEndedFunctions_21 ?_
        refine lv_aload_n hx hb d_M_leaveEndedFunctions_24 rfl (lv_at hl 0 rfl) ?_
        refine va_get (D := (dC, dI)) (ci := 3) (v := .int (g 21 0)) (C := R_M) (T := T_M) (N := 11) hx hb hg in_M hown hK hP 4 rfl rfl 5 (by decide) (hg _ t_83) (fun _ h9 => h9) rfl d_M_leaveEndedFunctions_25 ?_
        obtain ⟨c3, hF⟩ := qs_in_some hF
        refine va_iald hx hb hK hP 14 7 rfl rfl c3 d_M_leaveEndedFunctions_28 ?_
        obtain ⟨r4, u5, hX, hF⟩ := qs_bn_some hF
        refine qs_ci (Wd := qs_W h c) (isC := [0, 1, 2, 3, 4, 5, 6, 7, 8, 9, 10, 11, 12, 13, 14, 15, 16]) (va_runV (own := "QuakeServer$Machine") (C := "QuakeServer$Program") (As := [.int (g 14 (g 21 0).toNatClampNeg)]) (rest := [.int (g 15 (g 21 0).toNatClampNeg)]) ⟨hx, hb, hml, hown, hg⟩ (c_P_length l dC dI h c H.size g (g 14 (g 21 0).toNatClampNeg) r4 u5 hX) (cwV 1 hg (qs_gV t_450 t_320 t_321 t_4 t_322) rfl rfl rfl (by decide +kernel) ⟨Nat.le_of_ble_eq_true rfl, Nat.le_of_ble_eq_true rfl⟩) ⟨qs_blind, va_recv hK hP (ci := 2) (q0 := 3) rfl rfl, fun U hU hW => ⟨rfl, by rw [hU], by rw [hU]; exact hP, va_K.moved hW.alike hK, hD.weaken (fun _ _ _ _ => trivial), hNs.warm hW⟩⟩ rfl rfl hl.1 rfl (lv_room (Nat.le_of_ble_eq_true rfl)) d_M_leaveEndedFunctions_29 ⟨Nat.le_of_ble_eq_true rfl, Nat.le_of_ble_eq_true rfl⟩) rfl hP hD hS hA (fun H locs hP hD hS => ?_)
        refine lv_icmp_lt (tgt := 48) hx hb d_M_leaveEndedFunctions_32 (by decide) (fun c6 => ?_) (fun c6 => ?_)
        · have hF := qs_pos c6 hF
          obtain ⟨h8, h9⟩ := qs_ret hF
          exact W.vret hx hb hr (fun t ht hW => ⟨⟨u5, rfl, h9, by rw [ht]; exact hP, va_K.moved hW.alike hK, hD⟩, hS.F ht⟩) hS.2.2 d_M_leaveEndedFunctions_48
        · have hF := qs_neg c6 hF
          refine lv_aload_n hx hb d_M_leaveEndedFunctions_35 rfl (lv_at hl 0 rfl) ?_
          refine lv_dup hx hb d_M_leaveEndedFunctions_36 rfl ?_
          refine va_get (D := (dC, dI)) (ci := 3) (v := .int (u5 21 0)) (C := R_M) (T := T_M) (N := 11) hx hb hg in_M hown hK hP 4 rfl rfl 5 (by decide) (hg _ t_83) (fun _ h9 => h9) rfl d_M_leaveEndedFunctions_37 ?_
          refine lv_iconst (v := 1) hx hb d_M_leaveEndedFunctions_40 (by decide) ?_
          refine lv_isub hx hb d_M_leaveEndedFunctions_41 ?_
          refine va_put (D := (dC, dI)) (ci := 3) (v := .int ((u5 21 0) - 1)) (ty := .int) (C := R_M) (T := T_M) (N := 11) hx hb hg in_M ty_M ty_M_ok nm_M hown hK hP hD hS 4 rfl rfl 5 (by decide) (hg _ t_83) (fun _ h9 => h9) rfl (by decide +kernel) rfl rfl (Nat.le_of_ble_eq_true rfl) d_M_leaveEndedFunctions_42 (fun H locs hP hD hS => ?_)
          obtain ⟨u7, hu7, hF⟩ := qs_st_some hF
          have hP : va_P (dC, dI) vwCl (qs_W h c u7) H := by rw [hu7]; exact hP
          have hD : va_D A (qs_W h c u7) := by rw [hu7]; exact hD
          clear hu7
          refine lv_goto (tgt := 0) hx hb d_M_leaveEndedFunctions_45 (by decide) ?_
          exact ih u7 H locs ls hP hD hS (lv_sub hl [0] rfl) hF
  have hl := lv_entry ([.ref (h 4)] : List Value) (n := 1) (Nat.le_of_ble_eq_true rfl)
  rw [lg_entry_eq]
  generalize (lg_sl ([.ref (h 4)] : List Value) ++ List.replicate (1 - (lg_sl ([.ref (h 4)] : List Value)).length) Slot.unset).toArray = ls at hl ⊢
  have hl : lv_has ls 1 [(0, .ref (h 4))] := hl
  unfold f_M_leaveEndedFunctions at hF
  obtain ⟨H, hHe⟩ : ∃ H, H = s.heap := ⟨_, rfl⟩
  obtain ⟨locs, hLe⟩ : ∃ L : List Loc, L = [] := ⟨_, rfl⟩
  rw [← hHe] at hP ⊢
  rw [← hLe]
  have hS : va_S A s.heap H locs := by rw [hHe, hLe]; exact hS
  exact kb_0 200 g H locs ls hP hD hS (lv_sub hl [0] rfl) hF

theorem d_M_enter_0 : decode b_M_enter 0 = .ok (.aload_n 0, 1) := by decide +kernel
theorem d_M_enter_1 : decode b_M_enter 1 = .ok (.getfield 51, 3) := by decide +kernel
theorem d_M_enter_4 : decode b_M_enter 4 = .ok (.iconst 5, 1) := by decide +kernel
theorem d_M_enter_5 : decode b_M_enter 5 = .ok (.if_icmp .ne 9, 3) := by decide +kernel
theorem d_M_enter_8 : decode b_M_enter 8 = .ok (.aload_n 0, 1) := by decide +kernel
theorem d_M_enter_9 : decode b_M_enter 9 = .ok (.iconst 1, 1) := by decide +kernel
theorem d_M_enter_10 : decode b_M_enter 10 = .ok (.putfield 54, 3) := by decide +kernel
theorem d_M_enter_13 : decode b_M_enter 13 = .ok (.return_, 1) := by decide +kernel
theorem d_M_enter_14 : decode b_M_enter 14 = .ok (.aload_n 0, 1) := by decide +kernel
theorem d_M_enter_15 : decode b_M_enter 15 = .ok (.dup, 1) := by decide +kernel
theorem d_M_enter_16 : decode b_M_enter 16 = .ok (.getfield 51, 3) := by decide +kernel
theorem d_M_enter_19 : decode b_M_enter 19 = .ok (.iconst 1, 1) := by decide +kernel
theorem d_M_enter_20 : decode b_M_enter 20 = .ok (.iadd, 1) := by decide +kernel
theorem d_M_enter_21 : decode b_M_enter 21 = .ok (.putfield 51, 3) := by decide +kernel
theorem d_M_enter_24 : decode b_M_enter 24 = .ok (.aload_n 0, 1) := by decide +kernel
theorem d_M_enter_25 : decode b_M_enter 25 = .ok (.getfield 15, 3) := by decide +kernel
theorem d_M_enter_28 : decode b_M_enter 28 = .ok (.aload_n 0, 1) := by decide +kernel
theorem d_M_enter_29 : decode b_M_enter 29 = .ok (.getfield 51, 3) := by decide +kernel
theorem d_M_enter_32 : decode b_M_enter 32 = .ok (.iload_n 1, 1) := by decide +kernel
theorem d_M_enter_33 : decode b_M_enter 33 = .ok (.iastore, 1) := by decide +kernel
theorem d_M_enter_34 : decode b_M_enter 34 = .ok (.aload_n 0, 1) := by decide +kernel
theorem d_M_enter_35 : decode b_M_enter 35 = .ok (.getfield 18, 3) := by decide +kernel
theorem d_M_enter_38 : decode b_M_enter 38 = .ok (.aload_n 0, 1) := by decide +kernel
theorem d_M_enter_39 : decode b_M_enter 39 = .ok (.getfield 51, 3) := by decide +kernel
theorem d_M_enter_42 : decode b_M_enter 42 = .ok (.iconst 0, 1) := by decide +kernel
theorem d_M_enter_43 : decode b_M_enter 43 = .ok (.iastore, 1) := by decide +kernel
theorem d_M_enter_44 : decode b_M_enter 44 = .ok (.return_, 1) := by decide +kernel
def f_M_enter (g : Sg) (a1 : Int32) : Option (Unit × Sg) := (if (g 21 0) = 5 then (qs_st (qs_i g 22 (1)) fun u7 => (some ((), u7))) else (qs_st (qs_i g 21 ((g 21 0) + 1)) fun u2 => (qs_in (u2 21 0) 6 (qs_st (qs_a u2 14 (u2 21 0).toNatClampNeg (a1)) fun u4 => (qs_in (u4 21 0) 6 (qs_st (qs_a u4 15 (u4 21 0).toNatClampNeg (0)) fun u6 => (some ((), u6))))))))
set_option maxHeartbeats 4000000 in
set_option maxRecDepth 100000 in
theorem c_M_enter (l : Launch) (dC : Nat → ClassId) (dI : Nat → Nat → Nat) (h : Nat → Nat) (c : Nat → ClassId) (sz : Nat) (g : Sg) (a1 : Int32) (u0 : Sg) (hF : f_M_enter g a1 = some ((), u0)) : Met l y_M_enter (qs_ws y_M_enter b_M_enter 2 none) ({ frames := 0, cells := 0, slots := 0, locals := 0 } : Room) (va_Pc ([.ref (h 4), .int a1] : List Value) (fun U => U.heap.size = sz ∧ va_P (dC, dI) vwCl (qs_W h c g) U.heap ∧ va_K (dC, dI) vwCl (qs_T c) U ∧ va_D (fun _ => True) (qs_W h c g) ∧ qs_N U)) (va_Qv (fun (u : Sg) => u = u0) (qs_at dC dI h c (va_A (qs_W h c g) sz)) (va_A (qs_W h c g) sz)) 0 0 (va_A (qs_W h c g) sz) := by
  refine Met.ofW (cc := b_M_enter) (maxL := 2) (ret := none) (by decide +kernel) rfl ?_
  intro p e s m args below meth cd s₁ B hml hv
  obtain ⟨rfl, hsz, hP, hK, hD0, hNs⟩ := hv
  have hx := B.exec
  have hb := B.bytes
  have hr := B.returns
  have hts := atoms_spec (ws := (qs_ws y_M_enter b_M_enter 2 none)) B.pre
  have hg : ∀ w ∈ qs_gt, w.before _ s = true := fun w h => hts w (List.mem_cons_of_mem _ h)
  have hown : s.vm.findClass R_M = some m.cls := findClass_of_methodNamed B.named
  have hlocks := B.notSynchronized
  subst hsz
  have hD := hD0.self (sz := s.heap.size)
  generalize hAe : va_A (qs_W h c g) s.heap.size = A at hD ⊢
  have hA : ∀ q : Nat, s.heap.size ≤ q → A q := fun q h => by rw [← hAe]; exact Or.inr h
  have hS : va_S A s.heap s.heap [] := va_S.rf
  have hl := lv_entry ([.ref (h 4), .int a1] : List Value) (n := 2) (Nat.le_of_ble_eq_true rfl)
  rw [lg_entry_eq]
  generalize (lg_sl ([.ref (h 4), .int a1] : List Value) ++ List.replicate (2 - (lg_sl ([.ref (h 4), .int a1] : List Value)).length) Slot.unset).toArray = ls at hl ⊢
  have hl : lv_has ls 2 [(0, .ref (h 4)), (1, .int (a1))] := hl
  unfold f_M_enter at hF
  obtain ⟨H, hHe⟩ : ∃ H, H = s.heap := ⟨_, rfl⟩
  obtain ⟨locs, hLe⟩ : ∃ L : List Loc, L = [] := ⟨_, rfl⟩
  rw [← hHe] at hP ⊢
  rw [← hLe]
  have hS : va_S A s.heap H locs := by rw [hHe, hLe]; exact hS
  refine lv_aload_n hx hb d_M_enter_0 rfl (lv_at hl 0 rfl) ?_
  refine va_get (D := (dC, dI)) (ci := 3) (v := .int (g 21 0)) (C := R_M) (T := T_M) (N := 11) hx hb hg in_M hown hK hP 4 rfl rfl 5 (by decide) (hg _ t_83) (fun _ h9 => h9) rfl d_M_enter_1 ?_
  refine lv_iconst (v := 5) hx hb d_M_enter_4 (by decide) ?_
  refine lv_icmp_ne (tgt := 14) hx hb d_M_enter_5 (by decide) (fun c1 => ?_) (fun c1 => ?_)
  · have hF := qs_neg c1 hF
    refine lv_aload_n hx hb d_M_enter_14 rfl (lv_at hl 0 rfl) ?_
    refine lv_dup hx hb d_M_enter_15 rfl ?_
    refine va_get (D := (dC, dI)) (ci := 3) (v := .int (g 21 0)) (C := R_M) (T := T_M) (N := 11) hx hb hg in_M hown hK hP 4 rfl rfl 5 (by decide) (hg _ t_83) (fun _ h9 => h9) rfl d_M_enter_16 ?_
    refine lv_iconst (v := 1) hx hb d_M_enter_19 (by decide) ?_
    refine lv_iadd hx hb d_M_enter_20 ?_
    refine va_put (D := (dC, dI)) (ci := 3) (v := .int ((g 21 0) + 1)) (ty := .int) (C := R_M) (T := T_M) (N := 11) hx hb hg in_M ty_M ty_M_ok nm_M hown hK hP hD hS 4 rfl rfl 5 (by decide) (hg _ t_83) (fun _ h9 => h9) rfl (by decide +kernel) rfl rfl (Nat.le_of_ble_eq_true rfl) d_M_enter_21 (fun H locs hP hD hS => ?_)
    obtain ⟨u2, hu2, hF⟩ := qs_st_some hF
    have hP : va_P (dC, dI) vwCl (qs_W h c u2) H := by rw [hu2]; exact hP
    have hD : va_D A (qs_W h c u2) := by rw [hu2]; exact hD
    clear hu2
    refine lv_aload_n hx hb d_M_enter_24 rfl (lv_at hl 0 rfl) ?_
    refine va_get (D := (dC, dI)) (ci := 3) (v := .ref (h 14)) (C := R_M) (T := T_M) (N := 11) hx hb hg in_M hown hK hP 4 rfl rfl 3 (by decide) (hg _ t_81) (fun _ h9 => h9) rfl d_M_enter_25 ?_
    refine lv_aload_n hx hb d_M_enter_28 rfl (lv_at hl 0 rfl) ?_
    refine va_get (D := (dC, dI)) (ci := 3) (v := .int (u2 21 0)) (C := R_M) (T := T_M) (N := 11) hx hb hg in_M hown hK hP 4 rfl rfl 5 (by decide) (hg _ t_83) (fun _ h9 => h9) rfl d_M_enter_29 ?_
    refine lv_iload_n hx hb d_M_enter_32 rfl (lv_at hl 1 rfl) ?_
    obtain ⟨c3, hF⟩ := qs_in_some hF
    refine va_iast hx hb hK hP hD hS 14 7 rfl rfl c3 d_M_enter_33 (fun H locs hP hD hS => ?_)
    obtain ⟨u4, hu4, hF⟩ := qs_st_some hF
    have hP : va_P (dC, dI) vwCl (qs_W h c u4) H := by rw [hu4]; exact hP
    have hD : va_D A (qs_W h c u4) := by rw [hu4]; exact hD
    clear hu4
    refine lv_aload_n hx hb d_M_enter_34 rfl (lv_at hl 0 rfl) ?_
    refine va_get (D := (dC, dI)) (ci := 3) (v := .ref (h 15)) (C := R_M) (T := T_M) (N := 11) hx hb hg in_M hown hK hP 4 rfl rfl 4 (by decide) (hg _ t_82) (fun _ h9 => h9) rfl d_M_enter_35 ?_
    refine lv_aload_n hx hb d_M_enter_38 rfl (lv_at hl 0 rfl) ?_
    refine va_get (D := (dC, dI)) (ci := 3) (v := .int (u4 21 0)) (C := R_M) (T := T_M) (N := 11) hx hb hg in_M hown hK hP 4 rfl rfl 5 (by decide) (hg _ t_83) (fun _ h9 => h9) rfl d_M_enter_39 ?_
    refine lv_iconst (v := 0) hx hb d_M_enter_42 (by decide) ?_
    obtain ⟨c5, hF⟩ := qs_in_some hF
    refine va_iast hx hb hK hP hD hS 15 8 rfl rfl c5 d_M_enter_43 (fun H locs hP hD hS => ?_)
    obtain ⟨u6, hu6, hF⟩ := qs_st_some hF
    have hP : va_P (dC, dI) vwCl (qs_W h c u6) H := by rw [hu6]; exact hP
    have hD : va_D A (qs_W h c u6) := by rw [hu6]; exact hD
    clear hu6
    obtain ⟨h8, h9⟩ := qs_ret hF
    exact W.vret hx hb hr (fun t ht hW => ⟨⟨u6, rfl, h9, by rw [ht]; exact hP, va_K.moved hW.alike hK, hD⟩, hS.F ht⟩) hS.2.2 d_M_enter_44
  · have hF := qs_pos c1 hF
    refine lv_aload_n hx hb d_M_enter_8 rfl (lv_at hl 0 rfl) ?_
    refine lv_iconst (v := 1) hx hb d_M_enter_9 (by decide) ?_
    refine va_put (D := (dC, dI)) (ci := 3) (v := .int (1)) (ty := .boolean) (C := R_M) (T := T_M) (N := 11) hx hb hg in_M ty_M ty_M_ok nm_M hown hK hP hD hS 4 rfl rfl 6 (by decide) (hg _ t_84) (fun _ h9 => h9) rfl (by decide +kernel) rfl rfl (Nat.le_of_ble_eq_true rfl) d_M_enter_10 (fun H locs hP hD hS => ?_)
    obtain ⟨u7, hu7, hF⟩ := qs_st_some hF
    have hP : va_P (dC, dI) vwCl (qs_W h c u7) H := by rw [hu7]; exact hP
    have hD : va_D A (qs_W h c u7) := by rw [hu7]; exact hD
    clear hu7
    obtain ⟨h8, h9⟩ := qs_ret hF
    exact W.vret hx hb hr (fun t ht hW => ⟨⟨u7, rfl, h9, by rw [ht]; exact hP, va_K.moved hW.alike hK, hD⟩, hS.F ht⟩) hS.2.2 d_M_enter_13

theorem d_M_draw_0 : decode b_M_draw 0 = .ok (.aload_n 0, 1) := by decide +kernel
theorem d_M_draw_1 : decode b_M_draw 1 = .ok (.aload_n 0, 1) := by decide +kernel
theorem d_M_draw_2 : decode b_M_draw 2 = .ok (.getfield 21, 3) := by decide +kernel
theorem d_M_draw_5 : decode b_M_draw 5 = .ok (.i2l, 1) := by decide +kernel
theorem d_M_draw_6 : decode b_M_draw 6 = .ok (.ldc2_w 120, 3) := by decide +kernel
theorem d_M_draw_9 : decode b_M_draw 9 = .ok (.lmul, 1) := by decide +kernel
theorem d_M_draw_10 : decode b_M_draw 10 = .ok (.ldc2_w 122, 3) := by decide +kernel
theorem d_M_draw_13 : decode b_M_draw 13 = .ok (.ladd, 1) := by decide +kernel
theorem d_M_draw_14 : decode b_M_draw 14 = .ok (.ldc2_w 124, 3) := by decide +kernel
theorem d_M_draw_17 : decode b_M_draw 17 = .ok (.lrem, 1) := by decide +kernel
theorem d_M_draw_18 : decode b_M_draw 18 = .ok (.l2i, 1) := by decide +kernel
theorem d_M_draw_19 : decode b_M_draw 19 = .ok (.putfield 21, 3) := by decide +kernel
theorem d_M_draw_22 : decode b_M_draw 22 = .ok (.aload_n 0, 1) := by decide +kernel
theorem d_M_draw_23 : decode b_M_draw 23 = .ok (.getfield 21, 3) := by decide +kernel
theorem d_M_draw_26 : decode b_M_draw 26 = .ok (.ldc 126, 2) := by decide +kernel
theorem d_M_draw_28 : decode b_M_draw 28 = .ok (.idiv, 1) := by decide +kernel
theorem d_M_draw_29 : decode b_M_draw 29 = .ok (.bipush 8, 2) := by decide +kernel
theorem d_M_draw_31 : decode b_M_draw 31 = .ok (.irem, 1) := by decide +kernel
theorem d_M_draw_32 : decode b_M_draw 32 = .ok (.ireturn, 1) := by decide +kernel
def f_M_draw (g : Sg)  : Option (Int32 × Sg) := (qs_st (qs_i g 24 ((((((g 24 0).toInt64) * (1103515245 : Int64)) + (12345 : Int64)) - ((((g 24 0).toInt64) * (1103515245 : Int64)) + (12345 : Int64)) / (2147483648 : Int64) * (2147483648 : Int64)).toInt32)) fun u1 => (some (((u1 24 0) / 65536) - ((u1 24 0) / 65536) / 8 * 8, u1)))
set_option maxHeartbeats 4000000 in
set_option maxRecDepth 100000 in
theorem c_M_draw (l : Launch) (dC : Nat → ClassId) (dI : Nat → Nat → Nat) (h : Nat → Nat) (c : Nat → ClassId) (sz : Nat) (g : Sg)  (r0 : Int32) (u0 : Sg) (hF : f_M_draw g  = some (r0, u0)) : Met l y_M_draw (qs_ws y_M_draw b_M_draw 1 (some .int)) ({ frames := 0, cells := 0, slots := 0, locals := 0 } : Room) (va_Pc ([.ref (h 4)] : List Value) (fun U => U.heap.size = sz ∧ va_P (dC, dI) vwCl (qs_W h c g) U.heap ∧ va_K (dC, dI) vwCl (qs_T c) U ∧ va_D (fun _ => True) (qs_W h c g) ∧ qs_N U)) (va_Qi (fun (r : Int32) (u : Sg) => r = r0 ∧ u = u0) (qs_at dC dI h c (va_A (qs_W h c g) sz)) (va_A (qs_W h c g) sz)) 0 0 (va_A (qs_W h c g) sz) := by
  refine Met.ofW (cc := b_M_draw) (maxL := 1) (ret := (some .int)) (by decide +kernel) rfl ?_
  intro p e s m args below meth cd s₁ B hml hv
  obtain ⟨rfl, hsz, hP, hK, hD0, hNs⟩ := hv
  have hx := B.exec
  have hb := B.bytes
  have hr := B.returns
  have hts := atoms_spec (ws := (qs_ws y_M_draw b_M_draw 1 (some .int))) B.pre
  have hg : ∀ w ∈ qs_gt, w.before _ s = true := fun w h => hts w (List.mem_cons_of_mem _ h)
  have hown : s.vm.findClass R_M = some m.cls := findClass_of_methodNamed B.named
  have hlocks := B.notSynchronized
  subst hsz
  have hD := hD0.self (sz := s.heap.size)
  generalize hAe : va_A (qs_W h c g) s.heap.size = A at hD ⊢
  have hA : ∀ q : Nat, s.heap.size ≤ q → A q := fun q h => by rw [← hAe]; exact Or.inr h
  have hS : va_S A s.heap s.heap [] := va_S.rf
  have hl := lv_entry ([.ref (h 4)] : List Value) (n := 1) (Nat.le_of_ble_eq_true rfl)
  rw [lg_entry_eq]
  generalize (lg_sl ([.ref (h 4)] : List Value) ++ List.replicate (1 - (lg_sl ([.ref (h 4)] : List Value)).length) Slot.unset).toArray = ls at hl ⊢
  have hl : lv_has ls 1 [(0, .ref (h 4))] := hl
  unfold f_M_draw at hF
  obtain ⟨H, hHe⟩ : ∃ H, H = s.heap := ⟨_, rfl⟩
  obtain ⟨locs, hLe⟩ : ∃ L : List Loc, L = [] := ⟨_, rfl⟩
  rw [← hHe] at hP ⊢
  rw [← hLe]
  have hS : va_S A s.heap H locs := by rw [hHe, hLe]; exact hS
  refine lv_aload_n hx hb d_M_draw_0 rfl (lv_at hl 0 rfl) ?_
  refine lv_aload_n hx hb d_M_draw_1 rfl (lv_at hl 0 rfl) ?_
  refine va_get (D := (dC, dI)) (ci := 3) (v := .int (g 24 0)) (C := R_M) (T := T_M) (N := 11) hx hb hg in_M hown hK hP 4 rfl rfl 8 (by decide) (hg _ t_88) (fun _ h9 => h9) rfl d_M_draw_2 ?_
  refine lv_i2l (v := (g 24 0).toInt64) hx hb d_M_draw_5 rfl ?_
  refine lv_ldc2 (v := 1103515245) hx hb hown (hg _ t_488) d_M_draw_6 ?_
  refine lv_lmul hx hb d_M_draw_9 ?_
  refine lv_ldc2 (v := 12345) hx hb hown (hg _ t_489) d_M_draw_10 ?_
  refine lv_ladd hx hb d_M_draw_13 ?_
  refine lv_ldc2 (v := 2147483648) hx hb hown (hg _ t_490) d_M_draw_14 ?_
  refine lv_lrem hx hb d_M_draw_17 (by decide) ?_
  refine lv_l2i (v := (((((g 24 0).toInt64) * (1103515245 : Int64)) + (12345 : Int64)) - ((((g 24 0).toInt64) * (1103515245 : Int64)) + (12345 : Int64)) / (2147483648 : Int64) * (2147483648 : Int64)).toInt32) hx hb d_M_draw_18 rfl ?_
  refine va_put (D := (dC, dI)) (ci := 3) (v := .int ((((((g 24 0).toInt64) * (1103515245 : Int64)) + (12345 : Int64)) - ((((g 24 0).toInt64) * (1103515245 : Int64)) + (12345 : Int64)) / (2147483648 : Int64) * (2147483648 : Int64)).toInt32)) (ty := .int) (C := R_M) (T := T_M) (N := 11) hx hb hg in_M ty_M ty_M_ok nm_M hown hK hP hD hS 4 rfl rfl 8 (by decide) (hg _ t_88) (fun _ h9 => h9) rfl (by decide +kernel) rfl rfl (Nat.le_of_ble_eq_true rfl) d_M_draw_19 (fun H locs hP hD hS => ?_)
  obtain ⟨u1, hu1, hF⟩ := qs_st_some hF
  have hP : va_P (dC, dI) vwCl (qs_W h c u1) H := by rw [hu1]; exact hP
  have hD : va_D A (qs_W h c u1) := by rw [hu1]; exact hD
  clear hu1
  refine lv_aload_n hx hb d_M_draw_22 rfl (lv_at hl 0 rfl) ?_
  refine va_get (D := (dC, dI)) (ci := 3) (v := .int (u1 24 0)) (C := R_M) (T := T_M) (N := 11) hx hb hg in_M hown hK hP 4 rfl rfl 8 (by decide) (hg _ t_88) (fun _ h9 => h9) rfl d_M_draw_23 ?_
  refine lv_ldc (v := 65536) hx hb hown (hg _ t_491) d_M_draw_26 ?_
  refine lv_idiv hx hb d_M_draw_28 (by decide) ?_
  refine lv_bipush (v := 8) hx hb d_M_draw_29 (by decide) ?_
  refine lv_irem hx hb d_M_draw_31 (by decide) ?_
  obtain ⟨h8, h9⟩ := qs_ret hF
  exact W.iret (v := ((u1 24 0) / 65536) - ((u1 24 0) / 65536) / 8 * 8) hx hb hr (fun t ht hW => ⟨⟨(((u1 24 0) / 65536) - ((u1 24 0) / 65536) / 8 * 8), u1, rfl, ⟨h8, h9⟩, by rw [ht]; exact hP, va_K.moved hW.alike hK, hD⟩, hS.F ht⟩) hS.2.2 d_M_draw_32

theorem d_M_result_0 : decode b_M_result 0 = .ok (.iload_n 1, 1) := by decide +kernel
theorem d_M_result_1 : decode b_M_result 1 = .ok (.tableswitch 240 0 14 #[75, 77, 96, 115, 140, 162, 184, 191, 240, 240, 240, 240, 209, 240, 220], 75) := by decide +kernel
theorem d_M_result_76 : decode b_M_result 76 = .ok (.iload_n 3, 1) := by decide +kernel
theorem d_M_result_77 : decode b_M_result 77 = .ok (.ireturn, 1) := by decide +kernel
theorem d_M_result_78 : decode b_M_result 78 = .ok (.aload_n 0, 1) := by decide +kernel
theorem d_M_result_79 : decode b_M_result 79 = .ok (.getfield 9, 3) := by decide +kernel
theorem d_M_result_82 : decode b_M_result 82 = .ok (.iload_n 2, 1) := by decide +kernel
theorem d_M_result_83 : decode b_M_result 83 = .ok (.iaload, 1) := by decide +kernel
theorem d_M_result_84 : decode b_M_result 84 = .ok (.i2l, 1) := by decide +kernel
theorem d_M_result_85 : decode b_M_result 85 = .ok (.aload_n 0, 1) := by decide +kernel
theorem d_M_result_86 : decode b_M_result 86 = .ok (.getfield 9, 3) := by decide +kernel
theorem d_M_result_89 : decode b_M_result 89 = .ok (.iload_n 3, 1) := by decide +kernel
theorem d_M_result_90 : decode b_M_result 90 = .ok (.iaload, 1) := by decide +kernel
theorem d_M_result_91 : decode b_M_result 91 = .ok (.i2l, 1) := by decide +kernel
theorem d_M_result_92 : decode b_M_result 92 = .ok (.ladd, 1) := by decide +kernel
theorem d_M_result_93 : decode b_M_result 93 = .ok (.invokestatic 36, 3) := by decide +kernel
theorem d_M_result_96 : decode b_M_result 96 = .ok (.ireturn, 1) := by decide +kernel
theorem d_M_result_97 : decode b_M_result 97 = .ok (.aload_n 0, 1) := by decide +kernel
theorem d_M_result_98 : decode b_M_result 98 = .ok (.getfield 9, 3) := by decide +kernel
theorem d_M_result_101 : decode b_M_result 101 = .ok (.iload_n 2, 1) := by decide +kernel
theorem d_M_result_102 : decode b_M_result 102 = .ok (.iaload, 1) := by decide +kernel
theorem d_M_result_103 : decode b_M_result 103 = .ok (.i2l, 1) := by decide +kernel
theorem d_M_result_104 : decode b_M_result 104 = .ok (.aload_n 0, 1) := by decide +kernel
theorem d_M_result_105 : decode b_M_result 105 = .ok (.getfield 9, 3) := by decide +kernel
theorem d_M_result_108 : decode b_M_result 108 = .ok (.iload_n 3, 1) := by decide +kernel
theorem d_M_result_109 : decode b_M_result 109 = .ok (.iaload, 1) := by decide +kernel
theorem d_M_result_110 : decode b_M_result 110 = .ok (.i2l, 1) := by decide +kernel
theorem d_M_result_111 : decode b_M_result 111 = .ok (.lsub, 1) := by decide +kernel
theorem d_M_result_112 : decode b_M_result 112 = .ok (.invokestatic 36, 3) := by decide +kernel
theorem d_M_result_115 : decode b_M_result 115 = .ok (.ireturn, 1) := by decide +kernel
theorem d_M_result_116 : decode b_M_result 116 = .ok (.aload_n 0, 1) := by decide +kernel
theorem d_M_result_117 : decode b_M_result 117 = .ok (.getfield 9, 3) := by decide +kernel
theorem d_M_result_120 : decode b_M_result 120 = .ok (.iload_n 2, 1) := by decide +kernel
theorem d_M_result_121 : decode b_M_result 121 = .ok (.iaload, 1) := by decide +kernel
theorem d_M_result_122 : decode b_M_result 122 = .ok (.i2l, 1) := by decide +kernel
theorem d_M_result_123 : decode b_M_result 123 = .ok (.aload_n 0, 1) := by decide +kernel
theorem d_M_result_124 : decode b_M_result 124 = .ok (.getfield 9, 3) := by decide +kernel
theorem d_M_result_127 : decode b_M_result 127 = .ok (.iload_n 3, 1) := by decide +kernel
theorem d_M_result_128 : decode b_M_result 128 = .ok (.iaload, 1) := by decide +kernel
theorem d_M_result_129 : decode b_M_result 129 = .ok (.i2l, 1) := by decide +kernel
theorem d_M_result_130 : decode b_M_result 130 = .ok (.lmul, 1) := by decide +kernel
theorem d_M_result_131 : decode b_M_result 131 = .ok (.ldc2_w 99, 3) := by decide +kernel
theorem d_M_result_134 : decode b_M_result 134 = .ok (.invokestatic 101, 3) := by decide +kernel
theorem d_M_result_137 : decode b_M_result 137 = .ok (.invokestatic 36, 3) := by decide +kernel
theorem d_M_result_140 : decode b_M_result 140 = .ok (.ireturn, 1) := by decide +kernel
theorem d_M_result_141 : decode b_M_result 141 = .ok (.aload_n 0, 1) := by decide +kernel
theorem d_M_result_142 : decode b_M_result 142 = .ok (.getfield 9, 3) := by decide +kernel
theorem d_M_result_145 : decode b_M_result 145 = .ok (.iload_n 2, 1) := by decide +kernel
theorem d_M_result_146 : decode b_M_result 146 = .ok (.iaload, 1) := by decide +kernel
theorem d_M_result_147 : decode b_M_result 147 = .ok (.aload_n 0, 1) := by decide +kernel
theorem d_M_result_148 : decode b_M_result 148 = .ok (.getfield 9, 3) := by decide +kernel
theorem d_M_result_151 : decode b_M_result 151 = .ok (.iload_n 3, 1) := by decide +kernel
theorem d_M_result_152 : decode b_M_result 152 = .ok (.iaload, 1) := by decide +kernel
theorem d_M_result_153 : decode b_M_result 153 = .ok (.if_icmp .ge 8, 3) := by decide +kernel
theorem d_M_result_156 : decode b_M_result 156 = .ok (.bipush 8, 2) := by decide +kernel
theorem d_M_result_158 : decode b_M_result 158 = .ok (.goto 4, 3) := by decide +kernel
theorem d_M_result_161 : decode b_M_result 161 = .ok (.iconst 0, 1) := by decide +kernel
theorem d_M_result_162 : decode b_M_result 162 = .ok (.ireturn, 1) := by decide +kernel
theorem d_M_result_163 : decode b_M_result 163 = .ok (.aload_n 0, 1) := by decide +kernel
theorem d_M_result_164 : decode b_M_result 164 = .ok (.getfield 9, 3) := by decide +kernel
theorem d_M_result_167 : decode b_M_result 167 = .ok (.iload_n 2, 1) := by decide +kernel
theorem d_M_result_168 : decode b_M_result 168 = .ok (.iaload, 1) := by decide +kernel
theorem d_M_result_169 : decode b_M_result 169 = .ok (.aload_n 0, 1) := by decide +kernel
theorem d_M_result_170 : decode b_M_result 170 = .ok (.getfield 9, 3) := by decide +kernel
theorem d_M_result_173 : decode b_M_result 173 = .ok (.iload_n 3, 1) := by decide +kernel
theorem d_M_result_174 : decode b_M_result 174 = .ok (.iaload, 1) := by decide +kernel
theorem d_M_result_175 : decode b_M_result 175 = .ok (.if_icmp .ne 8, 3) := by decide +kernel
theorem d_M_result_178 : decode b_M_result 178 = .ok (.bipush 8, 2) := by decide +kernel
theorem d_M_result_180 : decode b_M_result 180 = .ok (.goto 4, 3) := by decide +kernel
theorem d_M_result_183 : decode b_M_result 183 = .ok (.iconst 0, 1) := by decide +kernel
theorem d_M_result_184 : decode b_M_result 184 = .ok (.ireturn, 1) := by decide +kernel
theorem d_M_result_185 : decode b_M_result 185 = .ok (.aload_n 0, 1) := by decide +kernel
theorem d_M_result_186 : decode b_M_result 186 = .ok (.getfield 9, 3) := by decide +kernel
theorem d_M_result_189 : decode b_M_result 189 = .ok (.iload_n 2, 1) := by decide +kernel
theorem d_M_result_190 : decode b_M_result 190 = .ok (.iaload, 1) := by decide +kernel
theorem d_M_result_191 : decode b_M_result 191 = .ok (.ireturn, 1) := by decide +kernel
theorem d_M_result_192 : decode b_M_result 192 = .ok (.aload_n 0, 1) := by decide +kernel
theorem d_M_result_193 : decode b_M_result 193 = .ok (.getfield 25, 3) := by decide +kernel
theorem d_M_result_196 : decode b_M_result 196 = .ok (.aload_n 0, 1) := by decide +kernel
theorem d_M_result_197 : decode b_M_result 197 = .ok (.getfield 9, 3) := by decide +kernel
theorem d_M_result_200 : decode b_M_result 200 = .ok (.iload_n 2, 1) := by decide +kernel
theorem d_M_result_201 : decode b_M_result 201 = .ok (.iaload, 1) := by decide +kernel
theorem d_M_result_202 : decode b_M_result 202 = .ok (.invokestatic 79, 3) := by decide +kernel
theorem d_M_result_205 : decode b_M_result 205 = .ok (.iload_n 3, 1) := by decide +kernel
theorem d_M_result_206 : decode b_M_result 206 = .ok (.invokevirtual 107, 3) := by decide +kernel
theorem d_M_result_209 : decode b_M_result 209 = .ok (.ireturn, 1) := by decide +kernel
theorem d_M_result_210 : decode b_M_result 210 = .ok (.aload_n 0, 1) := by decide +kernel
theorem d_M_result_211 : decode b_M_result 211 = .ok (.getfield 25, 3) := by decide +kernel
theorem d_M_result_214 : decode b_M_result 214 = .ok (.invokevirtual 110, 3) := by decide +kernel
theorem d_M_result_217 : decode b_M_result 217 = .ok (.bipush 8, 2) := by decide +kernel
theorem d_M_result_219 : decode b_M_result 219 = .ok (.imul, 1) := by decide +kernel
theorem d_M_result_220 : decode b_M_result 220 = .ok (.ireturn, 1) := by decide +kernel
theorem d_M_result_221 : decode b_M_result 221 = .ok (.aload_n 0, 1) := by decide +kernel
theorem d_M_result_222 : decode b_M_result 222 = .ok (.getfield 25, 3) := by decide +kernel
theorem d_M_result_225 : decode b_M_result 225 = .ok (.aload_n 0, 1) := by decide +kernel
theorem d_M_result_226 : decode b_M_result 226 = .ok (.getfield 9, 3) := by decide +kernel
theorem d_M_result_229 : decode b_M_result 229 = .ok (.iload_n 2, 1) := by decide +kernel
theorem d_M_result_230 : decode b_M_result 230 = .ok (.iaload, 1) := by decide +kernel
theorem d_M_result_231 : decode b_M_result 231 = .ok (.invokestatic 79, 3) := by decide +kernel
theorem d_M_result_234 : decode b_M_result 234 = .ok (.invokevirtual 114, 3) := by decide +kernel
theorem d_M_result_237 : decode b_M_result 237 = .ok (.bipush 8, 2) := by decide +kernel
theorem d_M_result_239 : decode b_M_result 239 = .ok (.imul, 1) := by decide +kernel
theorem d_M_result_240 : decode b_M_result 240 = .ok (.ireturn, 1) := by decide +kernel
theorem d_M_result_241 : decode b_M_result 241 = .ok (.aload_n 0, 1) := by decide +kernel
theorem d_M_result_242 : decode b_M_result 242 = .ok (.invokevirtual 117, 3) := by decide +kernel
theorem d_M_result_245 : decode b_M_result 245 = .ok (.ireturn, 1) := by decide +kernel
def f_M_result (g : Sg) (a1 : Int32) (a2 : Int32) (a3 : Int32) : Option (Int32 × Sg) := (if a1 = 0 then (some (a3, g)) else (if a1 = 1 then (qs_in (a2) 24 (qs_in (a3) 24 (qs_pb (f_Q_inRange (((g 13 a2.toNatClampNeg).toInt64) + ((g 13 a3.toNatClampNeg).toInt64))) fun r5 => (some (r5, g))))) else (if a1 = 2 then (qs_in (a2) 24 (qs_in (a3) 24 (qs_pb (f_Q_inRange (((g 13 a2.toNatClampNeg).toInt64) - ((g 13 a3.toNatClampNeg).toInt64))) fun r9 => (some (r9, g))))) else (if a1 = 3 then (qs_in (a2) 24 (qs_in (a3) 24 (qs_pb (f_J_floorDiv_JJJ (((g 13 a2.toNatClampNeg).toInt64) * ((g 13 a3.toNatClampNeg).toInt64)) ((8 : Int64))) fun r13 => (qs_pb (f_Q_inRange (r13)) fun r14 => (some (r14, g)))))) else (if a1 = 4 then (qs_in (a2) 24 (qs_in (a3) 24 (if (g 13 a3.toNatClampNeg) ≤ (g 13 a2.toNatClampNeg) then (some (0, g)) else (some (8, g))))) else (if a1 = 5 then (qs_in (a2) 24 (qs_in (a3) 24 (if (g 13 a2.toNatClampNeg) = (g 13 a3.toNatClampNeg) then (some (8, g)) else (some (0, g))))) else (if a1 = 6 then (qs_in (a2) 24 (some (g 13 a2.toNatClampNeg, g))) else (if a1 = 7 then (qs_in (a2) 24 (qs_pb (f_Q_wholeOf (g 13 a2.toNatClampNeg)) fun r27 => (qs_bn (f_E_field g (r27) (a3)) fun r28 u29 => (some (r28, u29))))) else (if a1 = 8 then (qs_bn (f_M_draw g ) fun r31 u32 => (some (r31, u32))) else (if a1 = 9 then (qs_bn (f_M_draw g ) fun r34 u35 => (some (r34, u35))) else (if a1 = 10 then (qs_bn (f_M_draw g ) fun r37 u38 => (some (r37, u38))) else (if a1 = 11 then (qs_bn (f_M_draw g ) fun r40 u41 => (some (r40, u41))) else (if a1 = 12 then (qs_bn (f_E_create g ) fun r43 u44 => (some (r43 * 8, u44))) else (if a1 = 13 then (qs_bn (f_M_draw g ) fun r46 u47 => (some (r46, u47))) else (if a1 = 14 then (qs_in (a2) 24 (qs_pb (f_Q_wholeOf (g 13 a2.toNatClampNeg)) fun r50 => (qs_bn (f_E_firstBehind g (r50)) fun r51 u52 => (some (r51 * 8, u52))))) else (qs_bn (f_M_draw g ) fun r53 u54 => (some (r53, u54))))))))))))))))))
set_option maxHeartbeats 4000000 in
set_option maxRecDepth 100000 in
theorem c_M_result (l : Launch) (dC : Nat → ClassId) (dI : Nat → Nat → Nat) (h : Nat → Nat) (c : Nat → ClassId) (sz : Nat) (g : Sg) (a1 : Int32) (a2 : Int32) (a3 : Int32) (r0 : Int32) (u0 : Sg) (hF : f_M_result g a1 a2 a3 = some (r0, u0)) : Met l y_M_result (qs_ws y_M_result b_M_result 4 (some .int)) ({ frames := 1, cells := 0, slots := 0, locals := 25 } : Room) (va_Pc ([.ref (h 4), .int a1, .int a2, .int a3] : List Value) (fun U => U.heap.size = sz ∧ va_P (dC, dI) vwCl (qs_W h c g) U.heap ∧ va_K (dC, dI) vwCl (qs_T c) U ∧ va_D (fun _ => True) (qs_W h c g) ∧ qs_N U)) (va_Qi (fun (r : Int32) (u : Sg) => r = r0 ∧ u = u0) (qs_at dC dI h c (va_A (qs_W h c g) sz)) (va_A (qs_W h c g) sz)) 0 0 (va_A (qs_W h c g) sz) := by
  refine Met.ofW (cc := b_M_result) (maxL := 4) (ret := (some .int)) (by decide +kernel) rfl ?_
  intro p e s m args below meth cd s₁ B hml hv
  obtain ⟨rfl, hsz, hP, hK, hD0, hNs⟩ := hv
  have hx := B.exec
  have hb := B.bytes
  have hr := B.returns
  have hts := atoms_spec (ws := (qs_ws y_M_result b_M_result 4 (some .int))) B.pre
  have hg : ∀ w ∈ qs_gt, w.before _ s = true := fun w h => hts w (List.mem_cons_of_mem _ h)
  have hown : s.vm.findClass R_M = some m.cls := findClass_of_methodNamed B.named
  have hlocks := B.notSynchronized
  subst hsz
  have hD := hD0.self (sz := s.heap.size)
  generalize hAe : va_A (qs_W h c g) s.heap.size = A at hD ⊢
  have hA : ∀ q : Nat, s.heap.size ≤ q → A q := fun q h => by rw [← hAe]; exact Or.inr h
  have hS : va_S A s.heap s.heap [] := va_S.rf
  have hl := lv_entry ([.ref (h 4), .int a1, .int a2, .int a3] : List Value) (n := 4) (Nat.le_of_ble_eq_true rfl)
  rw [lg_entry_eq]
  generalize (lg_sl ([.ref (h 4), .int a1, .int a2, .int a3] : List Value) ++ List.replicate (4 - (lg_sl ([.ref (h 4), .int a1, .int a2, .int a3] : List Value)).length) Slot.unset).toArray = ls at hl ⊢
  have hl : lv_has ls 4 [(0, .ref (h 4)), (1, .int (a1)), (2, .int (a2)), (3, .int (a3))] := hl
  unfold f_M_result at hF
  obtain ⟨H, hHe⟩ : ∃ H, H = s.heap := ⟨_, rfl⟩
  obtain ⟨locs, hLe⟩ : ∃ L : List Loc, L = [] := ⟨_, rfl⟩
  rw [← hHe] at hP ⊢
  rw [← hLe]
  have hS : va_S A s.heap H locs := by rw [hHe, hLe]; exact hS
  refine lv_iload_n hx hb d_M_result_0 rfl (lv_at hl 1 rfl) ?_
  by_cases c1 : a1 = 0
  · have hF := qs_pos c1 hF
    refine lv_tableIn (tgt := 76) hx hb d_M_result_1 (by rw [c1]; decide) (by rw [c1]; decide) (by rw [c1]; rfl) (by decide) ?_
    refine lv_iload_n hx hb d_M_result_76 rfl (lv_at hl 3 rfl) ?_
    obtain ⟨h8, h9⟩ := qs_ret hF
    exact W.iret (v := a3) hx hb hr (fun t ht hW => ⟨⟨a3, g, rfl, ⟨h8, h9⟩, by rw [ht]; exact hP, va_K.moved hW.alike hK, hD⟩, hS.F ht⟩) hS.2.2 d_M_result_77
  have hF := qs_neg c1 hF
  by_cases c2 : a1 = 1
  · have hF := qs_pos c2 hF
    refine lv_tableIn (tgt := 78) hx hb d_M_result_1 (by rw [c2]; decide) (by rw [c2]; decide) (by rw [c2]; rfl) (by decide) ?_
    refine lv_aload_n hx hb d_M_result_78 rfl (lv_at hl 0 rfl) ?_
    refine va_get (D := (dC, dI)) (ci := 3) (v := .ref (h 13)) (C := R_M) (T := T_M) (N := 11) hx hb hg in_M hown hK hP 4 rfl rfl 2 (by decide) (hg _ t_79) (fun _ h9 => h9) rfl d_M_result_79 ?_
    refine lv_iload_n hx hb d_M_result_82 rfl (lv_at hl 2 rfl) ?_
    obtain ⟨c3, hF⟩ := qs_in_some hF
    refine va_iald hx hb hK hP 13 6 rfl rfl c3 d_M_result_83 ?_
    refine lv_i2l (v := (g 13 a2.toNatClampNeg).toInt64) hx hb d_M_result_84 rfl ?_
    refine lv_aload_n hx hb d_M_result_85 rfl (lv_at hl 0 rfl) ?_
    refine va_get (D := (dC, dI)) (ci := 3) (v := .ref (h 13)) (C := R_M) (T := T_M) (N := 11) hx hb hg in_M hown hK hP 4 rfl rfl 2 (by decide) (hg _ t_79) (fun _ h9 => h9) rfl d_M_result_86 ?_
    refine lv_iload_n hx hb d_M_result_89 rfl (lv_at hl 3 rfl) ?_
    obtain ⟨c4, hF⟩ := qs_in_some hF
    refine va_iald hx hb hK hP 13 6 rfl rfl c4 d_M_result_90 ?_
    refine lv_i2l (v := (g 13 a3.toNatClampNeg).toInt64) hx hb d_M_result_91 rfl ?_
    refine lv_ladd hx hb d_M_result_92 ?_
    obtain ⟨r5, hX, hF⟩ := qs_pb_some hF
    refine qs_psi (va_runSN (own := "QuakeServer$Machine") (As := [.long (((g 13 a2.toNatClampNeg).toInt64) + ((g 13 a3.toNatClampNeg).toInt64))]) (rest := []) ⟨hx, hb, hml, hown, hg⟩ (c_Q_inRange l H.size (((g 13 a2.toNatClampNeg).toInt64) + ((g 13 a3.toNatClampNeg).toInt64)) r5 hX) ⟨va_cnB (own := "QuakeServer$Machine") (index := 36) (host := "QuakeServer") 1 hg (qs_gc t_471) rfl rfl rfl (nM_6 hNs) (hg _ t_1) (by decide +kernel) ⟨Nat.le_of_ble_eq_true rfl, Nat.le_of_ble_eq_true rfl⟩, hg _ t_470, trivial⟩ ⟨qs_blind0, fun U hU hW => ⟨rfl, by rw [hU], hNs.warm hW⟩⟩ rfl rfl hl.1 rfl (lv_room (Nat.le_of_ble_eq_true rfl)) d_M_result_93 ⟨Nat.le_of_ble_eq_true rfl, Nat.le_of_ble_eq_true rfl⟩) hP hD hS hA (fun H locs hP hS => ?_)
    obtain ⟨h8, h9⟩ := qs_ret hF
    exact W.iret (v := r5) hx hb hr (fun t ht hW => ⟨⟨r5, g, rfl, ⟨h8, h9⟩, by rw [ht]; exact hP, va_K.moved hW.alike hK, hD⟩, hS.F ht⟩) hS.2.2 d_M_result_96
  have hF := qs_neg c2 hF
  by_cases c6 : a1 = 2
  · have hF := qs_pos c6 hF
    refine lv_tableIn (tgt := 97) hx hb d_M_result_1 (by rw [c6]; decide) (by rw [c6]; decide) (by rw [c6]; rfl) (by decide) ?_
    refine lv_aload_n hx hb d_M_result_97 rfl (lv_at hl 0 rfl) ?_
    refine va_get (D := (dC, dI)) (ci := 3) (v := .ref (h 13)) (C := R_M) (T := T_M) (N := 11) hx hb hg in_M hown hK hP 4 rfl rfl 2 (by decide) (hg _ t_79) (fun _ h9 => h9) rfl d_M_result_98 ?_
    refine lv_iload_n hx hb d_M_result_101 rfl (lv_at hl 2 rfl) ?_
    obtain ⟨c7, hF⟩ := qs_in_some hF
    refine va_iald hx hb hK hP 13 6 rfl rfl c7 d_M_result_102 ?_
    refine lv_i2l (v := (g 13 a2.toNatClampNeg).toInt64) hx hb d_M_result_103 rfl ?_
    refine lv_aload_n hx hb d_M_result_104 rfl (lv_at hl 0 rfl) ?_
    refine va_get (D := (dC, dI)) (ci := 3) (v := .ref (h 13)) (C := R_M) (T := T_M) (N := 11) hx hb hg in_M hown hK hP 4 rfl rfl 2 (by decide) (hg _ t_79) (fun _ h9 => h9) rfl d_M_result_105 ?_
    refine lv_iload_n hx hb d_M_result_108 rfl (lv_at hl 3 rfl) ?_
    obtain ⟨c8, hF⟩ := qs_in_some hF
    refine va_iald hx hb hK hP 13 6 rfl rfl c8 d_M_result_109 ?_
    refine lv_i2l (v := (g 13 a3.toNatClampNeg).toInt64) hx hb d_M_result_110 rfl ?_
    refine lv_lsub hx hb d_M_result_111 ?_
    obtain ⟨r9, hX, hF⟩ := qs_pb_some hF
    refine qs_psi (va_runSN (own := "QuakeServer$Machine") (As := [.long (((g 13 a2.toNatClampNeg).toInt64) - ((g 13 a3.toNatClampNeg).toInt64))]) (rest := []) ⟨hx, hb, hml, hown, hg⟩ (c_Q_inRange l H.size (((g 13 a2.toNatClampNeg).toInt64) - ((g 13 a3.toNatClampNeg).toInt64)) r9 hX) ⟨va_cnB (own := "QuakeServer$Machine") (index := 36) (host := "QuakeServer") 1 hg (qs_gc t_471) rfl rfl rfl (nM_6 hNs) (hg _ t_1) (by decide +kernel) ⟨Nat.le_of_ble_eq_true rfl, Nat.le_of_ble_eq_true rfl⟩, hg _ t_470, trivial⟩ ⟨qs_blind0, fun U hU hW => ⟨rfl, by rw [hU], hNs.warm hW⟩⟩ rfl rfl hl.1 rfl (lv_room (Nat.le_of_ble_eq_true rfl)) d_M_result_112 ⟨Nat.le_of_ble_eq_true rfl, Nat.le_of_ble_eq_true rfl⟩) hP hD hS hA (fun H locs hP hS => ?_)
    obtain ⟨h8, h9⟩ := qs_ret hF
    exact W.iret (v := r9) hx hb hr (fun t ht hW => ⟨⟨r9, g, rfl, ⟨h8, h9⟩, by rw [ht]; exact hP, va_K.moved hW.alike hK, hD⟩, hS.F ht⟩) hS.2.2 d_M_result_115
  have hF := qs_neg c6 hF
  by_cases c10 : a1 = 3
  · have hF := qs_pos c10 hF
    refine lv_tableIn (tgt := 116) hx hb d_M_result_1 (by rw [c10]; decide) (by rw [c10]; decide) (by rw [c10]; rfl) (by decide) ?_
    refine lv_aload_n hx hb d_M_result_116 rfl (lv_at hl 0 rfl) ?_
    refine va_get (D := (dC, dI)) (ci := 3) (v := .ref (h 13)) (C := R_M) (T := T_M) (N := 11) hx hb hg in_M hown hK hP 4 rfl rfl 2 (by decide) (hg _ t_79) (fun _ h9 => h9) rfl d_M_result_117 ?_
    refine lv_iload_n hx hb d_M_result_120 rfl (lv_at hl 2 rfl) ?_
    obtain ⟨c11, hF⟩ := qs_in_some hF
    refine va_iald hx hb hK hP 13 6 rfl rfl c11 d_M_result_121 ?_
    refine lv_i2l (v := (g 13 a2.toNatClampNeg).toInt64) hx hb d_M_result_122 rfl ?_
    refine lv_aload_n hx hb d_M_result_123 rfl (lv_at hl 0 rfl) ?_
    refine va_get (D := (dC, dI)) (ci := 3) (v := .ref (h 13)) (C := R_M) (T := T_M) (N := 11) hx hb hg in_M hown hK hP 4 rfl rfl 2 (by decide) (hg _ t_79) (fun _ h9 => h9) rfl d_M_result_124 ?_
    refine lv_iload_n hx hb d_M_result_127 rfl (lv_at hl 3 rfl) ?_
    obtain ⟨c12, hF⟩ := qs_in_some hF
    refine va_iald hx hb hK hP 13 6 rfl rfl c12 d_M_result_128 ?_
    refine lv_i2l (v := (g 13 a3.toNatClampNeg).toInt64) hx hb d_M_result_129 rfl ?_
    refine lv_lmul hx hb d_M_result_130 ?_
    refine lv_ldc2 (v := 8) hx hb hown (hg _ t_474) d_M_result_131 ?_
    obtain ⟨r13, hX, hF⟩ := qs_pb_some hF
    refine qs_psl (va_runS (own := "QuakeServer$Machine") (As := [.long (((g 13 a2.toNatClampNeg).toInt64) * ((g 13 a3.toNatClampNeg).toInt64)), .long ((8 : Int64))]) (rest := []) ⟨hx, hb, hml, hown, hg⟩ (c_J_floorDiv_JJJ l H.size (((g 13 a2.toNatClampNeg).toInt64) * ((g 13 a3.toNatClampNeg).toInt64)) ((8 : Int64)) r13 hX) (va_cwS 2 hg (qs_gS t_475 t_476 t_15 t_477) rfl rfl rfl (by decide +kernel) ⟨Nat.le_of_ble_eq_true rfl, Nat.le_of_ble_eq_true rfl⟩) ⟨qs_blind0, fun U hU hW => ⟨rfl, by rw [hU], hNs.warm hW⟩⟩ rfl rfl hl.1 rfl (lv_room (Nat.le_of_ble_eq_true rfl)) d_M_result_134 ⟨Nat.le_of_ble_eq_true rfl, Nat.le_of_ble_eq_true rfl⟩) hP hD hS hA (fun H locs hP hS => ?_)
    obtain ⟨r14, hX, hF⟩ := qs_pb_some hF
    refine qs_psi (va_runSN (own := "QuakeServer$Machine") (As := [.long (r13)]) (rest := []) ⟨hx, hb, hml, hown, hg⟩ (c_Q_inRange l H.size (r13) r14 hX) ⟨va_cnB (own := "QuakeServer$Machine") (index := 36) (host := "QuakeServer") 1 hg (qs_gc t_471) rfl rfl rfl (nM_6 hNs) (hg _ t_1) (by decide +kernel) ⟨Nat.le_of_ble_eq_true rfl, Nat.le_of_ble_eq_true rfl⟩, hg _ t_470, trivial⟩ ⟨qs_blind0, fun U hU hW => ⟨rfl, by rw [hU], hNs.warm hW⟩⟩ rfl rfl hl.1 rfl (lv_room (Nat.le_of_ble_eq_true rfl)) d_M_result_137 ⟨Nat.le_of_ble_eq_true rfl, Nat.le_of_ble_eq_true rfl⟩) hP hD hS hA (fun H locs hP hS => ?_)
    obtain ⟨h8, h9⟩ := qs_ret hF
    exact W.iret (v := r14) hx hb hr (fun t ht hW => ⟨⟨r14, g, rfl, ⟨h8, h9⟩, by rw [ht]; exact hP, va_K.moved hW.alike hK, hD⟩, hS.F ht⟩) hS.2.2 d_M_result_140
  have hF := qs_neg c10 hF
  by_cases c15 : a1 = 4
  · have hF := qs_pos c15 hF
    refine lv_tableIn (tgt := 141) hx hb d_M_result_1 (by rw [c15]; decide) (by rw [c15]; decide) (by rw [c15]; rfl) (by decide) ?_
    refine lv_aload_n hx hb d_M_result_141 rfl (lv_at hl 0 rfl) ?_
    refine va_get (D := (dC, dI)) (ci := 3) (v := .ref (h 13)) (C := R_M) (T := T_M) (N := 11) hx hb hg in_M hown hK hP 4 rfl rfl 2 (by decide) (hg _ t_79) (fun _ h9 => h9) rfl d_M_result_142 ?_
    refine lv_iload_n hx hb d_M_result_145 rfl (lv_at hl 2 rfl) ?_
    obtain ⟨c16, hF⟩ := qs_in_some hF
    refine va_iald hx hb hK hP 13 6 rfl rfl c16 d_M_result_146 ?_
    refine lv_aload_n hx hb d_M_result_147 rfl (lv_at hl 0 rfl) ?_
    refine va_get (D := (dC, dI)) (ci := 3) (v := .ref (h 13)) (C := R_M) (T := T_M) (N := 11) hx hb hg in_M hown hK hP 4 rfl rfl 2 (by decide) (hg _ t_79) (fun _ h9 => h9) rfl d_M_result_148 ?_
    refine lv_iload_n hx hb d_M_result_151 rfl (lv_at hl 3 rfl) ?_
    obtain ⟨c17, hF⟩ := qs_in_some hF
    refine va_iald hx hb hK hP 13 6 rfl rfl c17 d_M_result_152 ?_
    refine lv_icmp_ge (tgt := 161) hx hb d_M_result_153 (by decide) (fun c18 => ?_) (fun c18 => ?_)
    · have hF := qs_pos c18 hF
      refine lv_iconst (v := 0) hx hb d_M_result_161 (by decide) ?_
      obtain ⟨h8, h9⟩ := qs_ret hF
      exact W.iret (v := 0) hx hb hr (fun t ht hW => ⟨⟨0, g, rfl, ⟨h8, h9⟩, by rw [ht]; exact hP, va_K.moved hW.alike hK, hD⟩, hS.F ht⟩) hS.2.2 d_M_result_162
    · have hF := qs_neg c18 hF
      refine lv_bipush (v := 8) hx hb d_M_result_156 (by decide) ?_
      refine lv_goto (tgt := 162) hx hb d_M_result_158 (by decide) ?_
      obtain ⟨h8, h9⟩ := qs_ret hF
      exact W.iret (v := 8) hx hb hr (fun t ht hW => ⟨⟨8, g, rfl, ⟨h8, h9⟩, by rw [ht]; exact hP, va_K.moved hW.alike hK, hD⟩, hS.F ht⟩) hS.2.2 d_M_result_162
  have hF := qs_neg c15 hF
  by_cases c19 : a1 = 5
  · have hF := qs_pos c19 hF
    refine lv_tableIn (tgt := 163) hx hb d_M_result_1 (by rw [c19]; decide) (by rw [c19]; decide) (by rw [c19]; rfl) (by decide) ?_
    refine lv_aload_n hx hb d_M_result_163 rfl (lv_at hl 0 rfl) ?_
    refine va_get (D := (dC, dI)) (ci := 3) (v := .ref (h 13)) (C := R_M) (T := T_M) (N := 11) hx hb hg in_M hown hK hP 4 rfl rfl 2 (by decide) (hg _ t_79) (fun _ h9 => h9) rfl d_M_result_164 ?_
    refine lv_iload_n hx hb d_M_result_167 rfl (lv_at hl 2 rfl) ?_
    obtain ⟨c20, hF⟩ := qs_in_some hF
    refine va_iald hx hb hK hP 13 6 rfl rfl c20 d_M_result_168 ?_
    refine lv_aload_n hx hb d_M_result_169 rfl (lv_at hl 0 rfl) ?_
    refine va_get (D := (dC, dI)) (ci := 3) (v := .ref (h 13)) (C := R_M) (T := T_M) (N := 11) hx hb hg in_M hown hK hP 4 rfl rfl 2 (by decide) (hg _ t_79) (fun _ h9 => h9) rfl d_M_result_170 ?_
    refine lv_iload_n hx hb d_M_result_173 rfl (lv_at hl 3 rfl) ?_
    obtain ⟨c21, hF⟩ := qs_in_some hF
    refine va_iald hx hb hK hP 13 6 rfl rfl c21 d_M_result_174 ?_
    refine lv_icmp_ne (tgt := 183) hx hb d_M_result_175 (by decide) (fun c22 => ?_) (fun c22 => ?_)
    · have hF := qs_neg c22 hF
      refine lv_iconst (v := 0) hx hb d_M_result_183 (by decide) ?_
      obtain ⟨h8, h9⟩ := qs_ret hF
      exact W.iret (v := 0) hx hb hr (fun t ht hW => ⟨⟨0, g, rfl, ⟨h8, h9⟩, by rw [ht]; exact hP, va_K.moved hW.alike hK, hD⟩, hS.F ht⟩) hS.2.2 d_M_result_184
    · have hF := qs_pos c22 hF
      refine lv_bipush (v := 8) hx hb d_M_result_178 (by decide) ?_
      refine lv_goto (tgt := 184) hx hb d_M_result_180 (by decide) ?_
      obtain ⟨h8, h9⟩ := qs_ret hF
      exact W.iret (v := 8) hx hb hr (fun t ht hW => ⟨⟨8, g, rfl, ⟨h8, h9⟩, by rw [ht]; exact hP, va_K.moved hW.alike hK, hD⟩, hS.F ht⟩) hS.2.2 d_M_result_184
  have hF := qs_neg c19 hF
  by_cases c23 : a1 = 6
  · have hF := qs_pos c23 hF
    refine lv_tableIn (tgt := 185) hx hb d_M_result_1 (by rw [c23]; decide) (by rw [c23]; decide) (by rw [c23]; rfl) (by decide) ?_
    refine lv_aload_n hx hb d_M_result_185 rfl (lv_at hl 0 rfl) ?_
    refine va_get (D := (dC, dI)) (ci := 3) (v := .ref (h 13)) (C := R_M) (T := T_M) (N := 11) hx hb hg in_M hown hK hP 4 rfl rfl 2 (by decide) (hg _ t_79) (fun _ h9 => h9) rfl d_M_result_186 ?_
    refine lv_iload_n hx hb d_M_result_189 rfl (lv_at hl 2 rfl) ?_
    obtain ⟨c24, hF⟩ := qs_in_some hF
    refine va_iald hx hb hK hP 13 6 rfl rfl c24 d_M_result_190 ?_
    obtain ⟨h8, h9⟩ := qs_ret hF
    exact W.iret (v := g 13 a2.toNatClampNeg) hx hb hr (fun t ht hW => ⟨⟨(g 13 a2.toNatClampNeg), g, rfl, ⟨h8, h9⟩, by rw [ht]; exact hP, va_K.moved hW.alike hK, hD⟩, hS.F ht⟩) hS.2.2 d_M_result_191
  have hF := qs_neg c23 hF
  by_cases c25 : a1 = 7
  · have hF := qs_pos c25 hF
    refine lv_tableIn (tgt := 192) hx hb d_M_result_1 (by rw [c25]; decide) (by rw [c25]; decide) (by rw [c25]; rfl) (by decide) ?_
    refine lv_aload_n hx hb d_M_result_192 rfl (lv_at hl 0 rfl) ?_
    refine va_get (D := (dC, dI)) (ci := 3) (v := .ref (h 1)) (C := R_M) (T := T_M) (N := 11) hx hb hg in_M hown hK hP 4 rfl rfl 0 (by decide) (hg _ t_77) (fun _ h9 => h9) rfl d_M_result_193 ?_
    refine lv_aload_n hx hb d_M_result_196 rfl (lv_at hl 0 rfl) ?_
    refine va_get (D := (dC, dI)) (ci := 3) (v := .ref (h 13)) (C := R_M) (T := T_M) (N := 11) hx hb hg in_M hown hK hP 4 rfl rfl 2 (by decide) (hg _ t_79) (fun _ h9 => h9) rfl d_M_result_197 ?_
    refine lv_iload_n hx hb d_M_result_200 rfl (lv_at hl 2 rfl) ?_
    obtain ⟨c26, hF⟩ := qs_in_some hF
    refine va_iald hx hb hK hP 13 6 rfl rfl c26 d_M_result_201 ?_
    obtain ⟨r27, hX, hF⟩ := qs_pb_some hF
    refine qs_psi (va_runSN (own := "QuakeServer$Machine") (As := [.int (g 13 a2.toNatClampNeg)]) (rest := [.ref (h 1)]) ⟨hx, hb, hml, hown, hg⟩ (c_Q_wholeOf l H.size (g 13 a2.toNatClampNeg) r27 hX) ⟨va_cnB (own := "QuakeServer$Machine") (index := 79) (host := "QuakeServer") 1 hg (qs_gc t_458) rfl rfl rfl (nM_5 hNs) (hg _ t_1) (by decide +kernel) ⟨Nat.le_of_ble_eq_true rfl, Nat.le_of_ble_eq_true rfl⟩, hg _ t_457, trivial⟩ ⟨qs_blind0, fun U hU hW => ⟨rfl, by rw [hU], hNs.warm hW⟩⟩ rfl rfl hl.1 rfl (lv_room (Nat.le_of_ble_eq_true rfl)) d_M_result_202 ⟨Nat.le_of_ble_eq_true rfl, Nat.le_of_ble_eq_true rfl⟩) hP hD hS hA (fun H locs hP hS => ?_)
    refine lv_iload_n hx hb d_M_result_205 rfl (lv_at hl 3 rfl) ?_
    obtain ⟨r28, u29, hX, hF⟩ := qs_bn_some hF
    refine qs_ci (Wd := qs_W h c) (isC := [0, 1, 2, 3, 4, 5, 6, 7, 8, 9, 10, 11, 12, 13, 14, 15, 16]) (va_runV (own := "QuakeServer$Machine") (C := "QuakeServer$Entities") (As := [.int (r27), .int (a3)]) (rest := []) ⟨hx, hb, hml, hown, hg⟩ (c_E_field l dC dI h c H.size g (r27) (a3) r28 u29 hX) (cwV 2 hg (qs_gV t_478 t_192 t_193 t_2 t_194) rfl rfl rfl (by decide +kernel) ⟨Nat.le_of_ble_eq_true rfl, Nat.le_of_ble_eq_true rfl⟩) ⟨qs_blind, va_recv hK hP (ci := 0) (q0 := 1) rfl rfl, fun U hU hW => ⟨rfl, by rw [hU], by rw [hU]; exact hP, va_K.moved hW.alike hK, hD.weaken (fun _ _ _ _ => trivial), hNs.warm hW⟩⟩ rfl rfl hl.1 rfl (lv_room (Nat.le_of_ble_eq_true rfl)) d_M_result_206 ⟨Nat.le_of_ble_eq_true rfl, Nat.le_of_ble_eq_true rfl⟩) rfl hP hD hS hA (fun H locs hP hD hS => ?_)
    obtain ⟨h8, h9⟩ := qs_ret hF
    exact W.iret (v := r28) hx hb hr (fun t ht hW => ⟨⟨r28, u29, rfl, ⟨h8, h9⟩, by rw [ht]; exact hP, va_K.moved hW.alike hK, hD⟩, hS.F ht⟩) hS.2.2 d_M_result_209
  have hF := qs_neg c25 hF
  by_cases c30 : a1 = 8
  · have hF := qs_pos c30 hF
    refine lv_tableIn (tgt := 241) hx hb d_M_result_1 (by rw [c30]; decide) (by rw [c30]; decide) (by rw [c30]; rfl) (by decide) ?_
    refine lv_aload_n hx hb d_M_result_241 rfl (lv_at hl 0 rfl) ?_
    obtain ⟨r31, u32, hX, hF⟩ := qs_bn_some hF
    refine qs_ci (Wd := qs_W h c) (isC := [0, 1, 2, 3, 4, 5, 6, 7, 8, 9, 10, 11, 12, 13, 14, 15, 16]) (va_runV (own := "QuakeServer$Machine") (C := "QuakeServer$Machine") (As := []) (rest := []) ⟨hx, hb, hml, hown, hg⟩ (c_M_draw l dC dI h c H.size g  r31 u32 hX) (cwV 0 hg (qs_gV t_484 t_486 tp_7 t_5 t_487) rfl rfl rfl (by decide +kernel) ⟨Nat.le_of_ble_eq_true rfl, Nat.le_of_ble_eq_true rfl⟩) ⟨qs_blind, va_recv hK hP (ci := 3) (q0 := 4) rfl rfl, fun U hU hW => ⟨rfl, by rw [hU], by rw [hU]; exact hP, va_K.moved hW.alike hK, hD.weaken (fun _ _ _ _ => trivial), hNs.warm hW⟩⟩ rfl rfl hl.1 rfl (lv_room (Nat.le_of_ble_eq_true rfl)) d_M_result_242 ⟨Nat.le_of_ble_eq_true rfl, Nat.le_of_ble_eq_true rfl⟩) rfl hP hD hS hA (fun H locs hP hD hS => ?_)
    obtain ⟨h8, h9⟩ := qs_ret hF
    exact W.iret (v := r31) hx hb hr (fun t ht hW => ⟨⟨r31, u32, rfl, ⟨h8, h9⟩, by rw [ht]; exact hP, va_K.moved hW.alike hK, hD⟩, hS.F ht⟩) hS.2.2 d_M_result_245
  have hF := qs_neg c30 hF
  by_cases c33 : a1 = 9
  · have hF := qs_pos c33 hF
    refine lv_tableIn (tgt := 241) hx hb d_M_result_1 (by rw [c33]; decide) (by rw [c33]; decide) (by rw [c33]; rfl) (by decide) ?_
    refine lv_aload_n hx hb d_M_result_241 rfl (lv_at hl 0 rfl) ?_
    obtain ⟨r34, u35, hX, hF⟩ := qs_bn_some hF
    refine qs_ci (Wd := qs_W h c) (isC := [0, 1, 2, 3, 4, 5, 6, 7, 8, 9, 10, 11, 12, 13, 14, 15, 16]) (va_runV (own := "QuakeServer$Machine") (C := "QuakeServer$Machine") (As := []) (rest := []) ⟨hx, hb, hml, hown, hg⟩ (c_M_draw l dC dI h c H.size g  r34 u35 hX) (cwV 0 hg (qs_gV t_484 t_486 tp_7 t_5 t_487) rfl rfl rfl (by decide +kernel) ⟨Nat.le_of_ble_eq_true rfl, Nat.le_of_ble_eq_true rfl⟩) ⟨qs_blind, va_recv hK hP (ci := 3) (q0 := 4) rfl rfl, fun U hU hW => ⟨rfl, by rw [hU], by rw [hU]; exact hP, va_K.moved hW.alike hK, hD.weaken (fun _ _ _ _ => trivial), hNs.warm hW⟩⟩ rfl rfl hl.1 rfl (lv_room (Nat.le_of_ble_eq_true rfl)) d_M_result_242 ⟨Nat.le_of_ble_eq_true rfl, Nat.le_of_ble_eq_true rfl⟩) rfl hP hD hS hA (fun H locs hP hD hS => ?_)
    obtain ⟨h8, h9⟩ := qs_ret hF
    exact W.iret (v := r34) hx hb hr (fun t ht hW => ⟨⟨r34, u35, rfl, ⟨h8, h9⟩, by rw [ht]; exact hP, va_K.moved hW.alike hK, hD⟩, hS.F ht⟩) hS.2.2 d_M_result_245
  have hF := qs_neg c33 hF
  by_cases c36 : a1 = 10
  · have hF := qs_pos c36 hF
    refine lv_tableIn (tgt := 241) hx hb d_M_result_1 (by rw [c36]; decide) (by rw [c36]; decide) (by rw [c36]; rfl) (by decide) ?_
    refine lv_aload_n hx hb d_M_result_241 rfl (lv_at hl 0 rfl) ?_
    obtain ⟨r37, u38, hX, hF⟩ := qs_bn_some hF
    refine qs_ci (Wd := qs_W h c) (isC := [0, 1, 2, 3, 4, 5, 6, 7, 8, 9, 10, 11, 12, 13, 14, 15, 16]) (va_runV (own := "QuakeServer$Machine") (C := "QuakeServer$Machine") (As := []) (rest := []) ⟨hx, hb, hml, hown, hg⟩ (c_M_draw l dC dI h c H.size g  r37 u38 hX) (cwV 0 hg (qs_gV t_484 t_486 tp_7 t_5 t_487) rfl rfl rfl (by decide +kernel) ⟨Nat.le_of_ble_eq_true rfl, Nat.le_of_ble_eq_true rfl⟩) ⟨qs_blind, va_recv hK hP (ci := 3) (q0 := 4) rfl rfl, fun U hU hW => ⟨rfl, by rw [hU], by rw [hU]; exact hP, va_K.moved hW.alike hK, hD.weaken (fun _ _ _ _ => trivial), hNs.warm hW⟩⟩ rfl rfl hl.1 rfl (lv_room (Nat.le_of_ble_eq_true rfl)) d_M_result_242 ⟨Nat.le_of_ble_eq_true rfl, Nat.le_of_ble_eq_true rfl⟩) rfl hP hD hS hA (fun H locs hP hD hS => ?_)
    obtain ⟨h8, h9⟩ := qs_ret hF
    exact W.iret (v := r37) hx hb hr (fun t ht hW => ⟨⟨r37, u38, rfl, ⟨h8, h9⟩, by rw [ht]; exact hP, va_K.moved hW.alike hK, hD⟩, hS.F ht⟩) hS.2.2 d_M_result_245
  have hF := qs_neg c36 hF
  by_cases c39 : a1 = 11
  · have hF := qs_pos c39 hF
    refine lv_tableIn (tgt := 241) hx hb d_M_result_1 (by rw [c39]; decide) (by rw [c39]; decide) (by rw [c39]; rfl) (by decide) ?_
    refine lv_aload_n hx hb d_M_result_241 rfl (lv_at hl 0 rfl) ?_
    obtain ⟨r40, u41, hX, hF⟩ := qs_bn_some hF
    refine qs_ci (Wd := qs_W h c) (isC := [0, 1, 2, 3, 4, 5, 6, 7, 8, 9, 10, 11, 12, 13, 14, 15, 16]) (va_runV (own := "QuakeServer$Machine") (C := "QuakeServer$Machine") (As := []) (rest := []) ⟨hx, hb, hml, hown, hg⟩ (c_M_draw l dC dI h c H.size g  r40 u41 hX) (cwV 0 hg (qs_gV t_484 t_486 tp_7 t_5 t_487) rfl rfl rfl (by decide +kernel) ⟨Nat.le_of_ble_eq_true rfl, Nat.le_of_ble_eq_true rfl⟩) ⟨qs_blind, va_recv hK hP (ci := 3) (q0 := 4) rfl rfl, fun U hU hW => ⟨rfl, by rw [hU], by rw [hU]; exact hP, va_K.moved hW.alike hK, hD.weaken (fun _ _ _ _ => trivial), hNs.warm hW⟩⟩ rfl rfl hl.1 rfl (lv_room (Nat.le_of_ble_eq_true rfl)) d_M_result_242 ⟨Nat.le_of_ble_eq_true rfl, Nat.le_of_ble_eq_true rfl⟩) rfl hP hD hS hA (fun H locs hP hD hS => ?_)
    obtain ⟨h8, h9⟩ := qs_ret hF
    exact W.iret (v := r40) hx hb hr (fun t ht hW => ⟨⟨r40, u41, rfl, ⟨h8, h9⟩, by rw [ht]; exact hP, va_K.moved hW.alike hK, hD⟩, hS.F ht⟩) hS.2.2 d_M_result_245
  have hF := qs_neg c39 hF
  by_cases c42 : a1 = 12
  · have hF := qs_pos c42 hF
    refine lv_tableIn (tgt := 210) hx hb d_M_result_1 (by rw [c42]; decide) (by rw [c42]; decide) (by rw [c42]; rfl) (by decide) ?_
    refine lv_aload_n hx hb d_M_result_210 rfl (lv_at hl 0 rfl) ?_
    refine va_get (D := (dC, dI)) (ci := 3) (v := .ref (h 1)) (C := R_M) (T := T_M) (N := 11) hx hb hg in_M hown hK hP 4 rfl rfl 0 (by decide) (hg _ t_77) (fun _ h9 => h9) rfl d_M_result_211 ?_
    obtain ⟨r43, u44, hX, hF⟩ := qs_bn_some hF
    refine qs_ci (Wd := qs_W h c) (isC := [0, 1, 2, 3, 4, 5, 6, 7, 8, 9, 10, 11, 12, 13, 14, 15, 16]) (va_runV (own := "QuakeServer$Machine") (C := "QuakeServer$Entities") (As := []) (rest := []) ⟨hx, hb, hml, hown, hg⟩ (c_E_create l dC dI h c H.size g  r43 u44 hX) (cwV 0 hg (qs_gV t_479 t_346 t_347 t_2 t_348) rfl rfl rfl (by decide +kernel) ⟨Nat.le_of_ble_eq_true rfl, Nat.le_of_ble_eq_true rfl⟩) ⟨qs_blind, va_recv hK hP (ci := 0) (q0 := 1) rfl rfl, fun U hU hW => ⟨rfl, by rw [hU], by rw [hU]; exact hP, va_K.moved hW.alike hK, hD.weaken (fun _ _ _ _ => trivial), hNs.warm hW⟩⟩ rfl rfl hl.1 rfl (lv_room (Nat.le_of_ble_eq_true rfl)) d_M_result_214 ⟨Nat.le_of_ble_eq_true rfl, Nat.le_of_ble_eq_true rfl⟩) rfl hP hD hS hA (fun H locs hP hD hS => ?_)
    refine lv_bipush (v := 8) hx hb d_M_result_217 (by decide) ?_
    refine lv_imul hx hb d_M_result_219 ?_
    obtain ⟨h8, h9⟩ := qs_ret hF
    exact W.iret (v := r43 * 8) hx hb hr (fun t ht hW => ⟨⟨(r43 * 8), u44, rfl, ⟨h8, h9⟩, by rw [ht]; exact hP, va_K.moved hW.alike hK, hD⟩, hS.F ht⟩) hS.2.2 d_M_result_220
  have hF := qs_neg c42 hF
  by_cases c45 : a1 = 13
  · have hF := qs_pos c45 hF
    refine lv_tableIn (tgt := 241) hx hb d_M_result_1 (by rw [c45]; decide) (by rw [c45]; decide) (by rw [c45]; rfl) (by decide) ?_
    refine lv_aload_n hx hb d_M_result_241 rfl (lv_at hl 0 rfl) ?_
    obtain ⟨r46, u47, hX, hF⟩ := qs_bn_some hF
    refine qs_ci (Wd := qs_W h c) (isC := [0, 1, 2, 3, 4, 5, 6, 7, 8, 9, 10, 11, 12, 13, 14, 15, 16]) (va_runV (own := "QuakeServer$Machine") (C := "QuakeServer$Machine") (As := []) (rest := []) ⟨hx, hb, hml, hown, hg⟩ (c_M_draw l dC dI h c H.size g  r46 u47 hX) (cwV 0 hg (qs_gV t_484 t_486 tp_7 t_5 t_487) rfl rfl rfl (by decide +kernel) ⟨Nat.le_of_ble_eq_true rfl, Nat.le_of_ble_eq_true rfl⟩) ⟨qs_blind, va_recv hK hP (ci := 3) (q0 := 4) rfl rfl, fun U hU hW => ⟨rfl, by rw [hU], by rw [hU]; exact hP, va_K.moved hW.alike hK, hD.weaken (fun _ _ _ _ => trivial), hNs.warm hW⟩⟩ rfl rfl hl.1 rfl (lv_room (Nat.le_of_ble_eq_true rfl)) d_M_result_242 ⟨Nat.le_of_ble_eq_true rfl, Nat.le_of_ble_eq_true rfl⟩) rfl hP hD hS hA (fun H locs hP hD hS => ?_)
    obtain ⟨h8, h9⟩ := qs_ret hF
    exact W.iret (v := r46) hx hb hr (fun t ht hW => ⟨⟨r46, u47, rfl, ⟨h8, h9⟩, by rw [ht]; exact hP, va_K.moved hW.alike hK, hD⟩, hS.F ht⟩) hS.2.2 d_M_result_245
  have hF := qs_neg c45 hF
  by_cases c48 : a1 = 14
  · have hF := qs_pos c48 hF
    refine lv_tableIn (tgt := 221) hx hb d_M_result_1 (by rw [c48]; decide) (by rw [c48]; decide) (by rw [c48]; rfl) (by decide) ?_
    refine lv_aload_n hx hb d_M_result_221 rfl (lv_at hl 0 rfl) ?_
    refine va_get (D := (dC, dI)) (ci := 3) (v := .ref (h 1)) (C := R_M) (T := T_M) (N := 11) hx hb hg in_M hown hK hP 4 rfl rfl 0 (by decide) (hg _ t_77) (fun _ h9 => h9) rfl d_M_result_222 ?_
    refine lv_aload_n hx hb d_M_result_225 rfl (lv_at hl 0 rfl) ?_
    refine va_get (D := (dC, dI)) (ci := 3) (v := .ref (h 13)) (C := R_M) (T := T_M) (N := 11) hx hb hg in_M hown hK hP 4 rfl rfl 2 (by decide) (hg _ t_79) (fun _ h9 => h9) rfl d_M_result_226 ?_
    refine lv_iload_n hx hb d_M_result_229 rfl (lv_at hl 2 rfl) ?_
    obtain ⟨c49, hF⟩ := qs_in_some hF
    refine va_iald hx hb hK hP 13 6 rfl rfl c49 d_M_result_230 ?_
    obtain ⟨r50, hX, hF⟩ := qs_pb_some hF
    refine qs_psi (va_runSN (own := "QuakeServer$Machine") (As := [.int (g 13 a2.toNatClampNeg)]) (rest := [.ref (h 1)]) ⟨hx, hb, hml, hown, hg⟩ (c_Q_wholeOf l H.size (g 13 a2.toNatClampNeg) r50 hX) ⟨va_cnB (own := "QuakeServer$Machine") (index := 79) (host := "QuakeServer") 1 hg (qs_gc t_458) rfl rfl rfl (nM_5 hNs) (hg _ t_1) (by decide +kernel) ⟨Nat.le_of_ble_eq_true rfl, Nat.le_of_ble_eq_true rfl⟩, hg _ t_457, trivial⟩ ⟨qs_blind0, fun U hU hW => ⟨rfl, by rw [hU], hNs.warm hW⟩⟩ rfl rfl hl.1 rfl (lv_room (Nat.le_of_ble_eq_true rfl)) d_M_result_231 ⟨Nat.le_of_ble_eq_true rfl, Nat.le_of_ble_eq_true rfl⟩) hP hD hS hA (fun H locs hP hS => ?_)
    obtain ⟨r51, u52, hX, hF⟩ := qs_bn_some hF
    refine qs_ci (Wd := qs_W h c) (isC := [0, 1, 2, 3, 4, 5, 6, 7, 8, 9, 10, 11, 12, 13, 14, 15, 16]) (va_runV (own := "QuakeServer$Machine") (C := "QuakeServer$Entities") (As := [.int (r50)]) (rest := []) ⟨hx, hb, hml, hown, hg⟩ (c_E_firstBehind l dC dI h c H.size g (r50) r51 u52 hX) (cwV 1 hg (qs_gV t_480 t_481 t_482 t_2 t_483) rfl rfl rfl (by decide +kernel) ⟨Nat.le_of_ble_eq_true rfl, Nat.le_of_ble_eq_true rfl⟩) ⟨qs_blind, va_recv hK hP (ci := 0) (q0 := 1) rfl rfl, fun U hU hW => ⟨rfl, by rw [hU], by rw [hU]; exact hP, va_K.moved hW.alike hK, hD.weaken (fun _ _ _ _ => trivial), hNs.warm hW⟩⟩ rfl rfl hl.1 rfl (lv_room (Nat.le_of_ble_eq_true rfl)) d_M_result_234 ⟨Nat.le_of_ble_eq_true rfl, Nat.le_of_ble_eq_true rfl⟩) rfl hP hD hS hA (fun H locs hP hD hS => ?_)
    refine lv_bipush (v := 8) hx hb d_M_result_237 (by decide) ?_
    refine lv_imul hx hb d_M_result_239 ?_
    obtain ⟨h8, h9⟩ := qs_ret hF
    exact W.iret (v := r51 * 8) hx hb hr (fun t ht hW => ⟨⟨(r51 * 8), u52, rfl, ⟨h8, h9⟩, by rw [ht]; exact hP, va_K.moved hW.alike hK, hD⟩, hS.F ht⟩) hS.2.2 d_M_result_240
  have hF := qs_neg c48 hF
  refine lv_tableOut (tgt := 241) hx hb d_M_result_1 (by have := lv_neT (a := 0) c1 (by decide); have := lv_neT (a := 1) c2 (by decide); have := lv_neT (a := 2) c6 (by decide); have := lv_neT (a := 3) c10 (by decide); have := lv_neT (a := 4) c15 (by decide); have := lv_neT (a := 5) c19 (by decide); have := lv_neT (a := 6) c23 (by decide); have := lv_neT (a := 7) c25 (by decide); have := lv_neT (a := 8) c30 (by decide); have := lv_neT (a := 9) c33 (by decide); have := lv_neT (a := 10) c36 (by decide); have := lv_neT (a := 11) c39 (by decide); have := lv_neT (a := 12) c42 (by decide); have := lv_neT (a := 13) c45 (by decide); have := lv_neT (a := 14) c48 (by decide); omega) (by decide) ?_
  refine lv_aload_n hx hb d_M_result_241 rfl (lv_at hl 0 rfl) ?_
  obtain ⟨r53, u54, hX, hF⟩ := qs_bn_some hF
  refine qs_ci (Wd := qs_W h c) (isC := [0, 1, 2, 3, 4, 5, 6, 7, 8, 9, 10, 11, 12, 13, 14, 15, 16]) (va_runV (own := "QuakeServer$Machine") (C := "QuakeServer$Machine") (As := []) (rest := []) ⟨hx, hb, hml, hown, hg⟩ (c_M_draw l dC dI h c H.size g  r53 u54 hX) (cwV 0 hg (qs_gV t_484 t_486 tp_7 t_5 t_487) rfl rfl rfl (by decide +kernel) ⟨Nat.le_of_ble_eq_true rfl, Nat.le_of_ble_eq_true rfl⟩) ⟨qs_blind, va_recv hK hP (ci := 3) (q0 := 4) rfl rfl, fun U hU hW => ⟨rfl, by rw [hU], by rw [hU]; exact hP, va_K.moved hW.alike hK, hD.weaken (fun _ _ _ _ => trivial), hNs.warm hW⟩⟩ rfl rfl hl.1 rfl (lv_room (Nat.le_of_ble_eq_true rfl)) d_M_result_242 ⟨Nat.le_of_ble_eq_true rfl, Nat.le_of_ble_eq_true rfl⟩) rfl hP hD hS hA (fun H locs hP hD hS => ?_)
  obtain ⟨h8, h9⟩ := qs_ret hF
  exact W.iret (v := r53) hx hb hr (fun t ht hW => ⟨⟨r53, u54, rfl, ⟨h8, h9⟩, by rw [ht]; exact hP, va_K.moved hW.alike hK, hD⟩, hS.F ht⟩) hS.2.2 d_M_result_245
