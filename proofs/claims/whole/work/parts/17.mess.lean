theorem d_L_now_0 : decode b_L_now 0 = .ok (.iload_n 1, 1) := by decide +kernel
theorem d_L_now_1 : decode b_L_now 1 = .ok (.bipush 16, 2) := by decide +kernel
theorem d_L_now_3 : decode b_L_now 3 = .ok (.idiv, 1) := by decide +kernel
theorem d_L_now_4 : decode b_L_now 4 = .ok (.istore_n 2, 1) := by decide +kernel
theorem d_L_now_5 : decode b_L_now 5 = .ok (.iload_n 1, 1) := by decide +kernel
theorem d_L_now_6 : decode b_L_now 6 = .ok (.bipush 16, 2) := by decide +kernel
theorem d_L_now_8 : decode b_L_now 8 = .ok (.irem, 1) := by decide +kernel
theorem d_L_now_9 : decode b_L_now 9 = .ok (.istore_n 3, 1) := by decide +kernel
theorem d_L_now_10 : decode b_L_now 10 = .ok (.iload_n 3, 1) := by decide +kernel
theorem d_L_now_11 : decode b_L_now 11 = .ok (.bipush 15, 2) := by decide +kernel
theorem d_L_now_13 : decode b_L_now 13 = .ok (.if_icmp .ne 20, 3) := by decide +kernel
theorem d_L_now_16 : decode b_L_now 16 = .ok (.aload_n 0, 1) := by decide +kernel
theorem d_L_now_17 : decode b_L_now 17 = .ok (.getfield 15, 3) := by decide +kernel
theorem d_L_now_20 : decode b_L_now 20 = .ok (.iload_n 2, 1) := by decide +kernel
theorem d_L_now_21 : decode b_L_now 21 = .ok (.invokevirtual 19, 3) := by decide +kernel
theorem d_L_now_24 : decode b_L_now 24 = .ok (.ifCond .eq 7, 3) := by decide +kernel
theorem d_L_now_27 : decode b_L_now 27 = .ok (.iconst 1, 1) := by decide +kernel
theorem d_L_now_28 : decode b_L_now 28 = .ok (.goto 4, 3) := by decide +kernel
theorem d_L_now_31 : decode b_L_now 31 = .ok (.iconst 0, 1) := by decide +kernel
theorem d_L_now_32 : decode b_L_now 32 = .ok (.ireturn, 1) := by decide +kernel
theorem d_L_now_33 : decode b_L_now 33 = .ok (.iload_n 3, 1) := by decide +kernel
theorem d_L_now_34 : decode b_L_now 34 = .ok (.bipush 8, 2) := by decide +kernel
theorem d_L_now_36 : decode b_L_now 36 = .ok (.if_icmp .ge 15, 3) := by decide +kernel
theorem d_L_now_39 : decode b_L_now 39 = .ok (.aload_n 0, 1) := by decide +kernel
theorem d_L_now_40 : decode b_L_now 40 = .ok (.getfield 15, 3) := by decide +kernel
theorem d_L_now_43 : decode b_L_now 43 = .ok (.iload_n 2, 1) := by decide +kernel
theorem d_L_now_44 : decode b_L_now 44 = .ok (.iload_n 3, 1) := by decide +kernel
theorem d_L_now_45 : decode b_L_now 45 = .ok (.invokevirtual 25, 3) := by decide +kernel
theorem d_L_now_48 : decode b_L_now 48 = .ok (.goto 4, 3) := by decide +kernel
theorem d_L_now_51 : decode b_L_now 51 = .ok (.iconst 0, 1) := by decide +kernel
theorem d_L_now_52 : decode b_L_now 52 = .ok (.ireturn, 1) := by decide +kernel
def f_L_now (g : Sg) (a1 : Int32) : Option (Int32 × Sg) := (if (a1 - a1 / 16 * 16) = 15 then (qs_bn (f_E_isThere g (a1 / 16)) fun r5 u6 => (if r5 = 0 then (some (0, u6)) else (some (1, u6)))) else (if 8 ≤ (a1 - a1 / 16 * 16) then (some (0, g)) else (qs_bn (f_E_field g (a1 / 16) (a1 - a1 / 16 * 16)) fun r3 u4 => (some (r3, u4)))))
set_option maxHeartbeats 4000000 in
set_option maxRecDepth 100000 in
theorem c_L_now (l : Launch) (dC : Nat → ClassId) (dI : Nat → Nat → Nat) (h : Nat → Nat) (c : Nat → ClassId) (sz : Nat) (g : Sg) (a1 : Int32) (r0 : Int32) (u0 : Sg) (hF : f_L_now g a1 = some (r0, u0)) : Met l y_L_now (qs_ws y_L_now b_L_now 4 (some .int)) ({ frames := 1, cells := 0, slots := 0, locals := 22 } : Room) (va_Pc ([.ref (h 6), .int a1] : List Value) (fun U => U.heap.size = sz ∧ va_P (dC, dI) vwCl (qs_W h c g) U.heap ∧ va_K (dC, dI) vwCl (qs_T c) U ∧ va_D (fun _ => True) (qs_W h c g) ∧ qs_N U)) (va_Qi (fun (r : Int32) (u : Sg) => r = r0 ∧ u = u0) (qs_at dC dI h c (va_A (qs_W h c g) sz)) (va_A (qs_W h c g) sz)) 0 0 (va_A (qs_W h c g) sz) := by
  refine Met.ofW (cc := b_L_now) (maxL := 4) (ret := (some .int)) (by decide +kernel) rfl ?_
  intro p e s m args below meth cd s₁ B hml hv
  obtain ⟨rfl, hsz, hP, hK, hD0, hNs⟩ := hv
  have hx := B.exec
  have hb := B.bytes
  have hr := B.returns
  have hts := atoms_spec (ws := (qs_ws y_L_now b_L_now 4 (some .int))) B.pre
  have hg : ∀ w ∈ qs_gt, w.before _ s = true := fun w h => hts w (List.mem_cons_of_mem _ h)
  have hown : s.vm.findClass R_L = some m.cls := findClass_of_methodNamed B.named
  have hlocks := B.notSynchronized
  subst hsz
  have hD := hD0.self (sz := s.heap.size)
  generalize hAe : va_A (qs_W h c g) s.heap.size = A at hD ⊢
  have hA : ∀ q : Nat, s.heap.size ≤ q → A q := fun q h => by rw [← hAe]; exact Or.inr h
  have hS : va_S A s.heap s.heap [] := va_S.rf
  have hl := lv_entry ([.ref (h 6), .int a1] : List Value) (n := 4) (Nat.le_of_ble_eq_true rfl)
  rw [lg_entry_eq]
  generalize (lg_sl ([.ref (h 6), .int a1] : List Value) ++ List.replicate (4 - (lg_sl ([.ref (h 6), .int a1] : List Value)).length) Slot.unset).toArray = ls at hl ⊢
  have hl : lv_has ls 4 [(0, .ref (h 6)), (1, .int (a1))] := hl
  unfold f_L_now at hF
  obtain ⟨H, hHe⟩ : ∃ H, H = s.heap := ⟨_, rfl⟩
  obtain ⟨locs, hLe⟩ : ∃ L : List Loc, L = [] := ⟨_, rfl⟩
  rw [← hHe] at hP ⊢
  rw [← hLe]
  have hS : va_S A s.heap H locs := by rw [hHe, hLe]; exact hS
  refine lv_iload_n hx hb d_L_now_0 rfl (lv_at hl 1 rfl) ?_
  refine lv_bipush (v := 16) hx hb d_L_now_1 (by decide) ?_
  refine lv_idiv hx hb d_L_now_3 (by decide) ?_
  refine lv_istore_n (lv' := [(2, .int (a1 / 16)), (0, .ref (h 6)), (1, .int (a1))]) hx hb d_L_now_4 rfl hl (by decide) rfl (fun ls hl => ?_)
  refine lv_iload_n hx hb d_L_now_5 rfl (lv_at hl 2 rfl) ?_
  refine lv_bipush (v := 16) hx hb d_L_now_6 (by decide) ?_
  refine lv_irem hx hb d_L_now_8 (by decide) ?_
  refine lv_istore_n (lv' := [(3, .int (a1 - a1 / 16 * 16)), (2, .int (a1 / 16)), (0, .ref (h 6)), (1, .int (a1))]) hx hb d_L_now_9 rfl hl (by decide) rfl (fun ls hl => ?_)
  refine lv_iload_n hx hb d_L_now_10 rfl (lv_at hl 0 rfl) ?_
  refine lv_bipush (v := 15) hx hb d_L_now_11 (by decide) ?_
  refine lv_icmp_ne (tgt := 33) hx hb d_L_now_13 (by decide) (fun c1 => ?_) (fun c1 => ?_)
  · have hF := qs_neg c1 hF
    refine lv_iload_n hx hb d_L_now_33 rfl (lv_at hl 0 rfl) ?_
    refine lv_bipush (v := 8) hx hb d_L_now_34 (by decide) ?_
    refine lv_icmp_ge (tgt := 51) hx hb d_L_now_36 (by decide) (fun c2 => ?_) (fun c2 => ?_)
    · have hF := qs_pos c2 hF
      refine lv_iconst (v := 0) hx hb d_L_now_51 (by decide) ?_
      obtain ⟨h8, h9⟩ := qs_ret hF
      exact W.iret (v := 0) hx hb hr (fun t ht hW => ⟨⟨0, g, rfl, ⟨h8, h9⟩, by rw [ht]; exact hP, va_K.moved hW.alike hK, hD⟩, hS.F ht⟩) hS.2.2 d_L_now_52
    · have hF := qs_neg c2 hF
      refine lv_aload_n hx hb d_L_now_39 rfl (lv_at hl 2 rfl) ?_
      refine va_get (D := (dC, dI)) (ci := 5) (v := .ref (h 1)) (C := R_L) (T := T_L) (N := 2) hx hb hg in_L hown hK hP 6 rfl rfl 0 (by decide) (hg _ t_149) (fun _ h9 => h9) rfl d_L_now_40 ?_
      refine lv_iload_n hx hb d_L_now_43 rfl (lv_at hl 1 rfl) ?_
      refine lv_iload_n hx hb d_L_now_44 rfl (lv_at hl 0 rfl) ?_
      obtain ⟨r3, u4, hX, hF⟩ := qs_bn_some hF
      refine qs_ci (Wd := qs_W h c) (isC := [0, 1, 2, 3, 4, 5, 6, 7, 8, 9, 10, 11, 12, 13, 14, 15, 16]) (va_runV (own := "QuakeServer$LastMessage") (C := "QuakeServer$Entities") (As := [.int (a1 / 16), .int (a1 - a1 / 16 * 16)]) (rest := []) ⟨hx, hb, hml, hown, hg⟩ (c_E_field l dC dI h c H.size g (a1 / 16) (a1 - a1 / 16 * 16) r3 u4 hX) (cwV 2 hg (qs_gV t_191 t_192 t_193 t_2 t_194) rfl rfl rfl (by decide +kernel) ⟨Nat.le_of_ble_eq_true rfl, Nat.le_of_ble_eq_true rfl⟩) ⟨qs_blind, va_recv hK hP (ci := 0) (q0 := 1) rfl rfl, fun U hU hW => ⟨rfl, by rw [hU], by rw [hU]; exact hP, va_K.moved hW.alike hK, hD.weaken (fun _ _ _ _ => trivial), hNs.warm hW⟩⟩ rfl rfl hl.1 rfl (lv_room (Nat.le_of_ble_eq_true rfl)) d_L_now_45 ⟨Nat.le_of_ble_eq_true rfl, Nat.le_of_ble_eq_true rfl⟩) rfl hP hD hS hA (fun H locs hP hD hS => ?_)
      refine lv_goto (tgt := 52) hx hb d_L_now_48 (by decide) ?_
      obtain ⟨h8, h9⟩ := qs_ret hF
      exact W.iret (v := r3) hx hb hr (fun t ht hW => ⟨⟨r3, u4, rfl, ⟨h8, h9⟩, by rw [ht]; exact hP, va_K.moved hW.alike hK, hD⟩, hS.F ht⟩) hS.2.2 d_L_now_52
  · have hF := qs_pos c1 hF
    refine lv_aload_n hx hb d_L_now_16 rfl (lv_at hl 2 rfl) ?_
    refine va_get (D := (dC, dI)) (ci := 5) (v := .ref (h 1)) (C := R_L) (T := T_L) (N := 2) hx hb hg in_L hown hK hP 6 rfl rfl 0 (by decide) (hg _ t_149) (fun _ h9 => h9) rfl d_L_now_17 ?_
    refine lv_iload_n hx hb d_L_now_20 rfl (lv_at hl 1 rfl) ?_
    obtain ⟨r5, u6, hX, hF⟩ := qs_bn_some hF
    refine qs_ci (Wd := qs_W h c) (isC := [0, 1, 2, 3, 4, 5, 6, 7, 8, 9, 10, 11, 12, 13, 14, 15, 16]) (va_runV (own := "QuakeServer$LastMessage") (C := "QuakeServer$Entities") (As := [.int (a1 / 16)]) (rest := []) ⟨hx, hb, hml, hown, hg⟩ (c_E_isThere l dC dI h c H.size g (a1 / 16) r5 u6 hX) (cwV 1 hg (qs_gV t_187 t_188 t_189 t_2 t_190) rfl rfl rfl (by decide +kernel) ⟨Nat.le_of_ble_eq_true rfl, Nat.le_of_ble_eq_true rfl⟩) ⟨qs_blind, va_recv hK hP (ci := 0) (q0 := 1) rfl rfl, fun U hU hW => ⟨rfl, by rw [hU], by rw [hU]; exact hP, va_K.moved hW.alike hK, hD.weaken (fun _ _ _ _ => trivial), hNs.warm hW⟩⟩ rfl rfl hl.1 rfl (lv_room (Nat.le_of_ble_eq_true rfl)) d_L_now_21 ⟨Nat.le_of_ble_eq_true rfl, Nat.le_of_ble_eq_true rfl⟩) rfl hP hD hS hA (fun H locs hP hD hS => ?_)
    refine lv_if_eq (tgt := 31) hx hb d_L_now_24 (by decide) (fun c7 => ?_) (fun c7 => ?_)
    · have hF := qs_pos c7 hF
      refine lv_iconst (v := 0) hx hb d_L_now_31 (by decide) ?_
      obtain ⟨h8, h9⟩ := qs_ret hF
      exact W.iret (v := 0) hx hb hr (fun t ht hW => ⟨⟨0, u6, rfl, ⟨h8, h9⟩, by rw [ht]; exact hP, va_K.moved hW.alike hK, hD⟩, hS.F ht⟩) hS.2.2 d_L_now_32
    · have hF := qs_neg c7 hF
      refine lv_iconst (v := 1) hx hb d_L_now_27 (by decide) ?_
      refine lv_goto (tgt := 32) hx hb d_L_now_28 (by decide) ?_
      obtain ⟨h8, h9⟩ := qs_ret hF
      exact W.iret (v := 1) hx hb hr (fun t ht hW => ⟨⟨1, u6, rfl, ⟨h8, h9⟩, by rw [ht]; exact hP, va_K.moved hW.alike hK, hD⟩, hS.F ht⟩) hS.2.2 d_L_now_32

theorem d_L_differences_0 : decode b_L_differences 0 = .ok (.iconst 0, 1) := by decide +kernel
theorem d_L_differences_1 : decode b_L_differences 1 = .ok (.istore_n 1, 1) := by decide +kernel
theorem d_L_differences_2 : decode b_L_differences 2 = .ok (.iconst 0, 1) := by decide +kernel
theorem d_L_differences_3 : decode b_L_differences 3 = .ok (.istore_n 2, 1) := by decide +kernel
theorem d_L_differences_4 : decode b_L_differences 4 = .ok (.iload_n 2, 1) := by decide +kernel
theorem d_L_differences_5 : decode b_L_differences 5 = .ok (.aload_n 0, 1) := by decide +kernel
theorem d_L_differences_6 : decode b_L_differences 6 = .ok (.getfield 9, 3) := by decide +kernel
theorem d_L_differences_9 : decode b_L_differences 9 = .ok (.arraylength, 1) := by decide +kernel
theorem d_L_differences_10 : decode b_L_differences 10 = .ok (.if_icmp .ge 26, 3) := by decide +kernel
theorem d_L_differences_13 : decode b_L_differences 13 = .ok (.aload_n 0, 1) := by decide +kernel
theorem d_L_differences_14 : decode b_L_differences 14 = .ok (.iload_n 2, 1) := by decide +kernel
theorem d_L_differences_15 : decode b_L_differences 15 = .ok (.invokevirtual 29, 3) := by decide +kernel
theorem d_L_differences_18 : decode b_L_differences 18 = .ok (.aload_n 0, 1) := by decide +kernel
theorem d_L_differences_19 : decode b_L_differences 19 = .ok (.getfield 9, 3) := by decide +kernel
theorem d_L_differences_22 : decode b_L_differences 22 = .ok (.iload_n 2, 1) := by decide +kernel
theorem d_L_differences_23 : decode b_L_differences 23 = .ok (.iaload, 1) := by decide +kernel
theorem d_L_differences_24 : decode b_L_differences 24 = .ok (.if_icmp .eq 6, 3) := by decide +kernel
theorem d_L_differences_27 : decode b_L_differences 27 = .ok (.iinc 1 1, 3) := by decide +kernel
theorem d_L_differences_30 : decode b_L_differences 30 = .ok (.iinc 2 1, 3) := by decide +kernel
theorem d_L_differences_33 : decode b_L_differences 33 = .ok (.goto (-29), 3) := by decide +kernel
theorem d_L_differences_36 : decode b_L_differences 36 = .ok (.iload_n 1, 1) := by decide +kernel
theorem d_L_differences_37 : decode b_L_differences 37 = .ok (.ireturn, 1) := by decide +kernel
def f_L_differences_30 (k4 : Sg → Int32 → Int32 → Option (Int32 × Sg)) (g : Sg) (x1 : Int32) (x2 : Int32) : Option (Int32 × Sg) := (k4 g (x1) (x2 + 1))
def f_L_differences_4  : Nat → Sg → Int32 → Int32 → Option (Int32 × Sg)
  | 0, _, _, _ => none
  | n + 1, g, x1, x2 => (if 192 ≤ x2 then (some (x1, g)) else (qs_bn (f_L_now g (x2)) fun r2 u3 => (qs_in (x2) 192 (if r2 = (u3 16 x2.toNatClampNeg) then (f_L_differences_30 (fun g x1 x2 => f_L_differences_4  n g x1 x2) u3 (x1) (x2)) else (f_L_differences_30 (fun g x1 x2 => f_L_differences_4  n g x1 x2) u3 (x1 + 1) (x2))))))
def f_L_differences (g : Sg)  : Option (Int32 × Sg) := (f_L_differences_4 200 g (0) (0))
set_option maxHeartbeats 4000000 in
set_option maxRecDepth 100000 in
theorem c_L_differences (l : Launch) (dC : Nat → ClassId) (dI : Nat → Nat → Nat) (h : Nat → Nat) (c : Nat → ClassId) (sz : Nat) (g : Sg)  (r0 : Int32) (u0 : Sg) (hF : f_L_differences g  = some (r0, u0)) : Met l y_L_differences (qs_ws y_L_differences b_L_differences 3 (some .int)) ({ frames := 2, cells := 0, slots := 0, locals := 45 } : Room) (va_Pc ([.ref (h 6)] : List Value) (fun U => U.heap.size = sz ∧ va_P (dC, dI) vwCl (qs_W h c g) U.heap ∧ va_K (dC, dI) vwCl (qs_T c) U ∧ va_D (fun _ => True) (qs_W h c g) ∧ qs_N U)) (va_Qi (fun (r : Int32) (u : Sg) => r = r0 ∧ u = u0) (qs_at dC dI h c (va_A (qs_W h c g) sz)) (va_A (qs_W h c g) sz)) 0 0 (va_A (qs_W h c g) sz) := by
  refine Met.ofW (cc := b_L_differences) (maxL := 3) (ret := (some .int)) (by decide +kernel) rfl ?_
  intro p e s m args below meth cd s₁ B hml hv
  obtain ⟨rfl, hsz, hP, hK, hD0, hNs⟩ := hv
  have hx := B.exec
  have hb := B.bytes
  have hr := B.returns
  have hts := atoms_spec (ws := (qs_ws y_L_differences b_L_differences 3 (some .int))) B.pre
  have hg : ∀ w ∈ qs_gt, w.before _ s = true := fun w h => hts w (List.mem_cons_of_mem _ h)
  have hown : s.vm.findClass R_L = some m.cls := findClass_of_methodNamed B.named
  have hlocks := B.notSynchronized
  subst hsz
  have hD := hD0.self (sz := s.heap.size)
  generalize hAe : va_A (qs_W h c g) s.heap.size = A at hD ⊢
  have hA : ∀ q : Nat, s.heap.size ≤ q → A q := fun q h => by rw [← hAe]; exact Or.inr h
  have hS : va_S A s.heap s.heap [] := va_S.rf
  have kb_30 : ∀ (k4 : Sg → Int32 → Int32 → Option (Int32 × Sg)), (∀ (g : Sg) (x1 : Int32) (x2 : Int32) (H : Heap) (locs : List Loc) (ls : Array Slot), va_P (dC, dI) vwCl (qs_W h c g) H → va_D A (qs_W h c g) → va_S A s.heap H locs → lv_has ls 3 [(0, .ref (h 6)), (1, .int (x1)), (2, .int (x2))] → k4 g x1 x2 = some (r0, u0) → W p l e (headSpec (qs_ws y_L_differences b_L_differences 3 (some .int)) ({ frames := 2, cells := 0, slots := 0, locals := 45 } : Room)).room s m ([.ref (h 6)] : List Value).toArray below meth cd H locs 0 0 (MQ below (va_Qi (fun (r : Int32) (u : Sg) => r = r0 ∧ u = u0) (qs_at dC dI h c A) A) ([.ref (h 6)] : List Value).toArray s 0 0 A) (F0 m 4 ls [])) → ∀ (g : Sg) (x1 : Int32) (x2 : Int32) (H : Heap) (locs : List Loc) (ls : Array Slot), va_P (dC, dI) vwCl (qs_W h c g) H → va_D A (qs_W h c g) → va_S A s.heap H locs → lv_has ls 3 [(0, .ref (h 6)), (1, .int (x1)), (2, .int (x2))] → f_L_differences_30 k4  g x1 x2 = some (r0, u0) → W p l e (headSpec (qs_ws y_L_differences b_L_differences 3 (some .int)) ({ frames := 2, cells := 0, slots := 0, locals := 45 } : Room)).room s m ([.ref (h 6)] : List Value).toArray below meth cd H locs 0 0 (MQ below (va_Qi (fun (r : Int32) (u : Sg) => r = r0 ∧ u = u0) (qs_at dC dI h c A) A) ([.ref (h 6)] : List Value).toArray s 0 0 A) (F0 m 30 ls []) := by
    intro k4 hk4
    intro g x1 x2 H locs ls hP hD hS hl hF
    unfold f_L_differences_30 at hF
    refine lv_iinc (v := x2 + 1) (lv' := [(2, .int (x2 + 1)), (0, .ref (h 6)), (1, .int (x1))]) hx hb d_L_differences_30 hl (k := 2) rfl (by rfl) (by decide) rfl (fun ls hl => ?_)
    refine lv_goto (tgt := 4) hx hb d_L_differences_33 (by decide) ?_
    exact hk4 g (x1) (x2 + 1) H locs ls hP hD hS (lv_sub hl [1, 2, 0] rfl) hF
  have kb_4 : ∀ n : Nat, ∀ (g : Sg) (x1 : Int32) (x2 : Int32) (H : Heap) (locs : List Loc) (ls : Array Slot), va_P (dC, dI) vwCl (qs_W h c g) H → va_D A (qs_W h c g) → va_S A s.heap H locs → lv_has ls 3 [(0, .ref (h 6)), (1, .int (x1)), (2, .int (x2))] → f_L_differences_4 n g x1 x2 = some (r0, u0) → W p l e (headSpec (qs_ws y_L_differences b_L_differences 3 (some .int)) ({ frames := 2, cells := 0, slots := 0, locals := 45 } : Room)).room s m ([.ref (h 6)] : List Value).toArray below meth cd H locs 0 0 (MQ below (va_Qi (fun (r : Int32) (u : Sg) => r = r0 ∧ u = u0) (qs_at dC dI h c A) A) ([.ref (h 6)] : List Value).toArray s 0 0 A) (F0 m 4 ls []) := by
    intro n
    induction n with
    | zero =>
      intro g x1 x2 H locs ls hP hD hS hl hF
      exact nomatch (show (none : Option (Int32 × Sg)) = some _ from hF)
    | succ n ih =>
      intro g x1 x2 H locs ls hP hD hS hl hF
      rw [f_L_differences_4] at hF
      refine lv_iload_n hx hb d_L_differences_4 rfl (lv_at hl 2 rfl) ?_
      refine lv_aload_n hx hb d_L_differences_5 rfl (lv_at hl 0 rfl) ?_
      refine va_get (D := (dC, dI)) (ci := 5) (v := .ref (h 16)) (C := R_L) (T := T_L) (N := 2) hx hb hg in_L hown hK hP 6 rfl rfl 1 (by decide) (hg _ t_150) (fun _ h9 => h9) rfl d_L_differences_6 ?_
      refine va_alen (v := 192) hx hb hK hP 16 9 rfl rfl (show Int32.ofNat 192 = 192 by decide) d_L_differences_9 ?_
      refine lv_icmp_ge (tgt := 36) hx hb d_L_differences_10 (by decide) (fun c1 => ?_) (fun c1 => ?_)
      · have hF := qs_pos c1 hF
        refine lv_iload_n hx hb d_L_differences_36 rfl (lv_at hl 1 rfl) ?_
        obtain ⟨h8, h9⟩ := qs_ret hF
        exact W.iret (v := x1) hx hb hr (fun t ht hW => ⟨⟨x1, g, rfl, ⟨h8, h9⟩, by rw [ht]; exact hP, va_K.moved hW.alike hK, hD⟩, hS.F ht⟩) hS.2.2 d_L_differences_37
      · have hF := qs_neg c1 hF
        refine lv_aload_n hx hb d_L_differences_13 rfl (lv_at hl 0 rfl) ?_
        refine lv_iload_n hx hb d_L_differences_14 rfl (lv_at hl 2 rfl) ?_
        obtain ⟨r2, u3, hX, hF⟩ := qs_bn_some hF
        refine qs_ci (Wd := qs_W h c) (isC := [0, 1, 2, 3, 4, 5, 6, 7, 8, 9, 10, 11, 12, 13, 14, 15, 16]) (va_runV (own := "QuakeServer$LastMessage") (C := "QuakeServer$LastMessage") (As := [.int (x2)]) (rest := []) ⟨hx, hb, hml, hown, hg⟩ (c_L_now l dC dI h c H.size g (x2) r2 u3 hX) (cwV 1 hg (qs_gV t_183 t_185 tp_0 t_7 t_186) rfl rfl rfl (by decide +kernel) ⟨Nat.le_of_ble_eq_true rfl, Nat.le_of_ble_eq_true rfl⟩) ⟨qs_blind, va_recv hK hP (ci := 5) (q0 := 6) rfl rfl, fun U hU hW => ⟨rfl, by rw [hU], by rw [hU]; exact hP, va_K.moved hW.alike hK, hD.weaken (fun _ _ _ _ => trivial), hNs.warm hW⟩⟩ rfl rfl hl.1 rfl (lv_room (Nat.le_of_ble_eq_true rfl)) d_L_differences_15 ⟨Nat.le_of_ble_eq_true rfl, Nat.le_of_ble_eq_true rfl⟩) rfl hP hD hS hA (fun H locs hP hD hS => ?_)
        refine lv_aload_n hx hb d_L_differences_18 rfl (lv_at hl 0 rfl) ?_
        refine va_get (D := (dC, dI)) (ci := 5) (v := .ref (h 16)) (C := R_L) (T := T_L) (N := 2) hx hb hg in_L hown hK hP 6 rfl rfl 1 (by decide) (hg _ t_150) (fun _ h9 => h9) rfl d_L_differences_19 ?_
        refine lv_iload_n hx hb d_L_differences_22 rfl (lv_at hl 2 rfl) ?_
        obtain ⟨c4, hF⟩ := qs_in_some hF
        refine va_iald hx hb hK hP 16 9 rfl rfl c4 d_L_differences_23 ?_
        refine lv_icmp_eq (tgt := 30) hx hb d_L_differences_24 (by decide) (fun c5 => ?_) (fun c5 => ?_)
        · have hF := qs_pos c5 hF
          exact kb_30 _ ih u3 (x1) (x2) H locs ls hP hD hS (lv_sub hl [0, 1, 2] rfl) hF
        · have hF := qs_neg c5 hF
          refine lv_iinc (v := x1 + 1) (lv' := [(1, .int (x1 + 1)), (0, .ref (h 6)), (2, .int (x2))]) hx hb d_L_differences_27 hl (k := 1) rfl (by rfl) (by decide) rfl (fun ls hl => ?_)
          exact kb_30 _ ih u3 (x1 + 1) (x2) H locs ls hP hD hS (lv_sub hl [1, 0, 2] rfl) hF
  have hl := lv_entry ([.ref (h 6)] : List Value) (n := 3) (Nat.le_of_ble_eq_true rfl)
  rw [lg_entry_eq]
  generalize (lg_sl ([.ref (h 6)] : List Value) ++ List.replicate (3 - (lg_sl ([.ref (h 6)] : List Value)).length) Slot.unset).toArray = ls at hl ⊢
  have hl : lv_has ls 3 [(0, .ref (h 6))] := hl
  unfold f_L_differences at hF
  obtain ⟨H, hHe⟩ : ∃ H, H = s.heap := ⟨_, rfl⟩
  obtain ⟨locs, hLe⟩ : ∃ L : List Loc, L = [] := ⟨_, rfl⟩
  rw [← hHe] at hP ⊢
  rw [← hLe]
  have hS : va_S A s.heap H locs := by rw [hHe, hLe]; exact hS
  refine lv_iconst (v := 0) hx hb d_L_differences_0 (by decide) ?_
  refine lv_istore_n (lv' := [(1, .int (0)), (0, .ref (h 6))]) hx hb d_L_differences_1 rfl hl (by decide) rfl (fun ls hl => ?_)
  refine lv_iconst (v := 0) hx hb d_L_differences_2 (by decide) ?_
  refine lv_istore_n (lv' := [(2, .int (0)), (1, .int (0)), (0, .ref (h 6))]) hx hb d_L_differences_3 rfl hl (by decide) rfl (fun ls hl => ?_)
  exact kb_4 200 g (0) (0) H locs ls hP hD hS (lv_sub hl [2, 1, 0] rfl) hF

theorem d_L_difference_0 : decode b_L_difference 0 = .ok (.iconst 0, 1) := by decide +kernel
theorem d_L_difference_1 : decode b_L_difference 1 = .ok (.istore_n 2, 1) := by decide +kernel
theorem d_L_difference_2 : decode b_L_difference 2 = .ok (.iconst 0, 1) := by decide +kernel
theorem d_L_difference_3 : decode b_L_difference 3 = .ok (.istore_n 3, 1) := by decide +kernel
theorem d_L_difference_4 : decode b_L_difference 4 = .ok (.iload_n 3, 1) := by decide +kernel
theorem d_L_difference_5 : decode b_L_difference 5 = .ok (.aload_n 0, 1) := by decide +kernel
theorem d_L_difference_6 : decode b_L_difference 6 = .ok (.getfield 9, 3) := by decide +kernel
theorem d_L_difference_9 : decode b_L_difference 9 = .ok (.arraylength, 1) := by decide +kernel
theorem d_L_difference_10 : decode b_L_difference 10 = .ok (.if_icmp .ge 33, 3) := by decide +kernel
theorem d_L_difference_13 : decode b_L_difference 13 = .ok (.aload_n 0, 1) := by decide +kernel
theorem d_L_difference_14 : decode b_L_difference 14 = .ok (.iload_n 3, 1) := by decide +kernel
theorem d_L_difference_15 : decode b_L_difference 15 = .ok (.invokevirtual 29, 3) := by decide +kernel
theorem d_L_difference_18 : decode b_L_difference 18 = .ok (.aload_n 0, 1) := by decide +kernel
theorem d_L_difference_19 : decode b_L_difference 19 = .ok (.getfield 9, 3) := by decide +kernel
theorem d_L_difference_22 : decode b_L_difference 22 = .ok (.iload_n 3, 1) := by decide +kernel
theorem d_L_difference_23 : decode b_L_difference 23 = .ok (.iaload, 1) := by decide +kernel
theorem d_L_difference_24 : decode b_L_difference 24 = .ok (.if_icmp .eq 13, 3) := by decide +kernel
theorem d_L_difference_27 : decode b_L_difference 27 = .ok (.iload_n 2, 1) := by decide +kernel
theorem d_L_difference_28 : decode b_L_difference 28 = .ok (.iload_n 1, 1) := by decide +kernel
theorem d_L_difference_29 : decode b_L_difference 29 = .ok (.if_icmp .ne 5, 3) := by decide +kernel
theorem d_L_difference_32 : decode b_L_difference 32 = .ok (.iload_n 3, 1) := by decide +kernel
theorem d_L_difference_33 : decode b_L_difference 33 = .ok (.ireturn, 1) := by decide +kernel
theorem d_L_difference_34 : decode b_L_difference 34 = .ok (.iinc 2 1, 3) := by decide +kernel
theorem d_L_difference_37 : decode b_L_difference 37 = .ok (.iinc 3 1, 3) := by decide +kernel
theorem d_L_difference_40 : decode b_L_difference 40 = .ok (.goto (-36), 3) := by decide +kernel
theorem d_L_difference_43 : decode b_L_difference 43 = .ok (.bipush (-2), 2) := by decide +kernel
theorem d_L_difference_45 : decode b_L_difference 45 = .ok (.ireturn, 1) := by decide +kernel
def f_L_difference_37 (k4 : Sg → Int32 → Int32 → Int32 → Option (Int32 × Sg)) (g : Sg) (x1 : Int32) (x2 : Int32) (x3 : Int32) : Option (Int32 × Sg) := (k4 g (x1) (x2) (x3 + 1))
def f_L_difference_4  : Nat → Sg → Int32 → Int32 → Int32 → Option (Int32 × Sg)
  | 0, _, _, _, _ => none
  | n + 1, g, x1, x2, x3 => (if 192 ≤ x3 then (some ((-2), g)) else (qs_bn (f_L_now g (x3)) fun r2 u3 => (qs_in (x3) 192 (if r2 = (u3 16 x3.toNatClampNeg) then (f_L_difference_37 (fun g x1 x2 x3 => f_L_difference_4  n g x1 x2 x3) u3 (x1) (x2) (x3)) else (if x2 = x1 then (some (x3, u3)) else (f_L_difference_37 (fun g x1 x2 x3 => f_L_difference_4  n g x1 x2 x3) u3 (x1) (x2 + 1) (x3)))))))
def f_L_difference (g : Sg) (a1 : Int32) : Option (Int32 × Sg) := (f_L_difference_4 200 g (a1) (0) (0))
set_option maxHeartbeats 4000000 in
set_option maxRecDepth 100000 in
theorem c_L_difference (l : Launch) (dC : Nat → ClassId) (dI : Nat → Nat → Nat) (h : Nat → Nat) (c : Nat → ClassId) (sz : Nat) (g : Sg) (a1 : Int32) (r0 : Int32) (u0 : Sg) (hF : f_L_difference g a1 = some (r0, u0)) : Met l y_L_difference (qs_ws y_L_difference b_L_difference 4 (some .int)) ({ frames := 2, cells := 0, slots := 0, locals := 45 } : Room) (va_Pc ([.ref (h 6), .int a1] : List Value) (fun U => U.heap.size = sz ∧ va_P (dC, dI) vwCl (qs_W h c g) U.heap ∧ va_K (dC, dI) vwCl (qs_T c) U ∧ va_D (fun _ => True) (qs_W h c g) ∧ qs_N U)) (va_Qi (fun (r : Int32) (u : Sg) => r = r0 ∧ u = u0) (qs_at dC dI h c (va_A (qs_W h c g) sz)) (va_A (qs_W h c g) sz)) 0 0 (va_A (qs_W h c g) sz) := by
  refine Met.ofW (cc := b_L_difference) (maxL := 4) (ret := (some .int)) (by decide +kernel) rfl ?_
  intro p e s m args below meth cd s₁ B hml hv
  obtain ⟨rfl, hsz, hP, hK, hD0, hNs⟩ := hv
  have hx := B.exec
  have hb := B.bytes
  have hr := B.returns
  have hts := atoms_spec (ws := (qs_ws y_L_difference b_L_difference 4 (some .int))) B.pre
  have hg : ∀ w ∈ qs_gt, w.before _ s = true := fun w h => hts w (List.mem_cons_of_mem _ h)
  have hown : s.vm.findClass R_L = some m.cls := findClass_of_methodNamed B.named
  have hlocks := B.notSynchronized
  subst hsz
  have hD := hD0.self (sz := s.heap.size)
  generalize hAe : va_A (qs_W h c g) s.heap.size = A at hD ⊢
  have hA : ∀ q : Nat, s.heap.size ≤ q → A q := fun q h => by rw [← hAe]; exact Or.inr h
  have hS : va_S A s.heap s.heap [] := va_S.rf
  have kb_37 : ∀ (k4 : Sg → Int32 → Int32 → Int32 → Option (Int32 × Sg)), (∀ (g : Sg) (x1 : Int32) (x2 : Int32) (x3 : Int32) (H : Heap) (locs : List Loc) (ls : Array Slot), va_P (dC, dI) vwCl (qs_W h c g) H → va_D A (qs_W h c g) → va_S A s.heap H locs → lv_has ls 4 [(0, .ref (h 6)), (1, .int (x1)), (2, .int (x2)), (3, .int (x3))] → k4 g x1 x2 x3 = some (r0, u0) → W p l e (headSpec (qs_ws y_L_difference b_L_difference 4 (some .int)) ({ frames := 2, cells := 0, slots := 0, locals := 45 } : Room)).room s m ([.ref (h 6), .int a1] : List Value).toArray below meth cd H locs 0 0 (MQ below (va_Qi (fun (r : Int32) (u : Sg) => r = r0 ∧ u = u0) (qs_at dC dI h c A) A) ([.ref (h 6), .int a1] : List Value).toArray s 0 0 A) (F0 m 4 ls [])) → ∀ (g : Sg) (x1 : Int32) (x2 : Int32) (x3 : Int32) (H : Heap) (locs : List Loc) (ls : Array Slot), va_P (dC, dI) vwCl (qs_W h c g) H → va_D A (qs_W h c g) → va_S A s.heap H locs → lv_has ls 4 [(0, .ref (h 6)), (1, .int (x1)), (2, .int (x2)), (3, .int (x3))] → f_L_difference_37 k4  g x1 x2 x3 = some (r0, u0) → W p l e (headSpec (qs_ws y_L_difference b_L_difference 4 (some .int)) ({ frames := 2, cells := 0, slots := 0, locals := 45 } : Room)).room s m ([.ref (h 6), .int a1] : List Value).toArray below meth cd H locs 0 0 (MQ below (va_Qi (fun (r : Int32) (u : Sg) => r = r0 ∧ u = u0) (qs_at dC dI h c A) A) ([.ref (h 6), .int a1] : List Value).toArray s 0 0 A) (F0 m 37 ls []) := by
    intro k4 hk4
    intro g x1 x2 x3 H locs ls hP hD hS hl hF
    unfold f_L_difference_37 at hF
    refine lv_iinc (v := x3 + 1) (lv' := [(3, .int (x3 + 1)), (0, .ref (h 6)), (1, .int (x1)), (2, .int (x2))]) hx hb d_L_difference_37 hl (k := 3) rfl (by rfl) (by decide) rfl (fun ls hl => ?_)
    refine lv_goto (tgt := 4) hx hb d_L_difference_40 (by decide) ?_
    exact hk4 g (x1) (x2) (x3 + 1) H locs ls hP hD hS (lv_sub hl [1, 2, 3, 0] rfl) hF
  have kb_4 : ∀ n : Nat, ∀ (g : Sg) (x1 : Int32) (x2 : Int32) (x3 : Int32) (H : Heap) (locs : List Loc) (ls : Array Slot), va_P (dC, dI) vwCl (qs_W h c g) H → va_D A (qs_W h c g) → va_S A s.heap H locs → lv_has ls 4 [(0, .ref (h 6)), (1, .int (x1)), (2, .int (x2)), (3, .int (x3))] → f_L_difference_4 n g x1 x2 x3 = some (r0, u0) → W p l e (headSpec (qs_ws y_L_difference b_L_difference 4 (some .int)) ({ frames := 2, cells := 0, slots := 0, locals := 45 } : Room)).room s m ([.ref (h 6), .int a1] : List Value).toArray below meth cd H locs 0 0 (MQ below (va_Qi (fun (r : Int32) (u : Sg) => r = r0 ∧ u = u0) (qs_at dC dI h c A) A) ([.ref (h 6), .int a1] : List Value).toArray s 0 0 A) (F0 m 4 ls []) := by
    intro n
    induction n with
    | zero =>
      intro g x1 x2 x3 H locs ls hP hD hS hl hF
      exact nomatch (show (none : Option (Int32 × Sg)) = some _ from hF)
    | succ n ih =>
      intro g x1 x2 x3 H locs ls hP hD hS hl hF
      rw [f_L_difference_4] at hF
      refine lv_iload_n hx hb d_L_difference_4 rfl (lv_at hl 3 rfl) ?_
      refine lv_aload_n hx hb d_L_difference_5 rfl (lv_at hl 0 rfl) ?_
      refine va_get (D := (dC, dI)) (ci := 5) (v := .ref (h 16)) (C := R_L) (T := T_L) (N := 2) hx hb hg in_L hown hK hP 6 rfl rfl 1 (by decide) (hg _ t_150) (fun _ h9 => h9) rfl d_L_difference_6 ?_
      refine va_alen (v := 192) hx hb hK hP 16 9 rfl rfl (show Int32.ofNat 192 = 192 by decide) d_L_difference_9 ?_
      refine lv_icmp_ge (tgt := 43) hx hb d_L_difference_10 (by decide) (fun c1 => ?_) (fun c1 => ?_)
      · have hF := qs_pos c1 hF
        refine lv_bipush (v := (-2)) hx hb d_L_difference_43 (by decide) ?_
        obtain ⟨h8, h9⟩ := qs_ret hF
        exact W.iret (v := (-2)) hx hb hr (fun t ht hW => ⟨⟨(-2), g, rfl, ⟨h8, h9⟩, by rw [ht]; exact hP, va_K.moved hW.alike hK, hD⟩, hS.F ht⟩) hS.2.2 d_L_difference_45
      · have hF := qs_neg c1 hF
        refine lv_aload_n hx hb d_L_difference_13 rfl (lv_at hl 0 rfl) ?_
        refine lv_iload_n hx hb d_L_difference_14 rfl (lv_at hl 3 rfl) ?_
        obtain ⟨r2, u3, hX, hF⟩ := qs_bn_some hF
        refine qs_ci (Wd := qs_W h c) (isC := [0, 1, 2, 3, 4, 5, 6, 7, 8, 9, 10, 11, 12, 13, 14, 15, 16]) (va_runV (own := "QuakeServer$LastMessage") (C := "QuakeServer$LastMessage") (As := [.int (x3)]) (rest := []) ⟨hx, hb, hml, hown, hg⟩ (c_L_now l dC dI h c H.size g (x3) r2 u3 hX) (cwV 1 hg (qs_gV t_183 t_185 tp_0 t_7 t_186) rfl rfl rfl (by decide +kernel) ⟨Nat.le_of_ble_eq_true rfl, Nat.le_of_ble_eq_true rfl⟩) ⟨qs_blind, va_recv hK hP (ci := 5) (q0 := 6) rfl rfl, fun U hU hW => ⟨rfl, by rw [hU], by rw [hU]; exact hP, va_K.moved hW.alike hK, hD.weaken (fun _ _ _ _ => trivial), hNs.warm hW⟩⟩ rfl rfl hl.1 rfl (lv_room (Nat.le_of_ble_eq_true rfl)) d_L_difference_15 ⟨Nat.le_of_ble_eq_true rfl, Nat.le_of_ble_eq_true rfl⟩) rfl hP hD hS hA (fun H locs hP hD hS => ?_)
        refine lv_aload_n hx hb d_L_difference_18 rfl (lv_at hl 0 rfl) ?_
        refine va_get (D := (dC, dI)) (ci := 5) (v := .ref (h 16)) (C := R_L) (T := T_L) (N := 2) hx hb hg in_L hown hK hP 6 rfl rfl 1 (by decide) (hg _ t_150) (fun _ h9 => h9) rfl d_L_difference_19 ?_
        refine lv_iload_n hx hb d_L_difference_22 rfl (lv_at hl 3 rfl) ?_
        obtain ⟨c4, hF⟩ := qs_in_some hF
        refine va_iald hx hb hK hP 16 9 rfl rfl c4 d_L_difference_23 ?_
        refine lv_icmp_eq (tgt := 37) hx hb d_L_difference_24 (by decide) (fun c5 => ?_) (fun c5 => ?_)
        · have hF := qs_pos c5 hF
          exact kb_37 _ ih u3 (x1) (x2) (x3) H locs ls hP hD hS (lv_sub hl [0, 1, 2, 3] rfl) hF
        · have hF := qs_neg c5 hF
          refine lv_iload_n hx hb d_L_difference_27 rfl (lv_at hl 2 rfl) ?_
          refine lv_iload_n hx hb d_L_difference_28 rfl (lv_at hl 1 rfl) ?_
          refine lv_icmp_ne (tgt := 34) hx hb d_L_difference_29 (by decide) (fun c6 => ?_) (fun c6 => ?_)
          · have hF := qs_neg c6 hF
            refine lv_iinc (v := x2 + 1) (lv' := [(2, .int (x2 + 1)), (0, .ref (h 6)), (1, .int (x1)), (3, .int (x3))]) hx hb d_L_difference_34 hl (k := 2) rfl (by rfl) (by decide) rfl (fun ls hl => ?_)
            exact kb_37 _ ih u3 (x1) (x2 + 1) (x3) H locs ls hP hD hS (lv_sub hl [1, 2, 0, 3] rfl) hF
          · have hF := qs_pos c6 hF
            refine lv_iload_n hx hb d_L_difference_32 rfl (lv_at hl 3 rfl) ?_
            obtain ⟨h8, h9⟩ := qs_ret hF
            exact W.iret (v := x3) hx hb hr (fun t ht hW => ⟨⟨x3, u3, rfl, ⟨h8, h9⟩, by rw [ht]; exact hP, va_K.moved hW.alike hK, hD⟩, hS.F ht⟩) hS.2.2 d_L_difference_33
  have hl := lv_entry ([.ref (h 6), .int a1] : List Value) (n := 4) (Nat.le_of_ble_eq_true rfl)
  rw [lg_entry_eq]
  generalize (lg_sl ([.ref (h 6), .int a1] : List Value) ++ List.replicate (4 - (lg_sl ([.ref (h 6), .int a1] : List Value)).length) Slot.unset).toArray = ls at hl ⊢
  have hl : lv_has ls 4 [(0, .ref (h 6)), (1, .int (a1))] := hl
  unfold f_L_difference at hF
  obtain ⟨H, hHe⟩ : ∃ H, H = s.heap := ⟨_, rfl⟩
  obtain ⟨locs, hLe⟩ : ∃ L : List Loc, L = [] := ⟨_, rfl⟩
  rw [← hHe] at hP ⊢
  rw [← hLe]
  have hS : va_S A s.heap H locs := by rw [hHe, hLe]; exact hS
  refine lv_iconst (v := 0) hx hb d_L_difference_0 (by decide) ?_
  refine lv_istore_n (lv' := [(2, .int (0)), (0, .ref (h 6)), (1, .int (a1))]) hx hb d_L_difference_1 rfl hl (by decide) rfl (fun ls hl => ?_)
  refine lv_iconst (v := 0) hx hb d_L_difference_2 (by decide) ?_
  refine lv_istore_n (lv' := [(3, .int (0)), (2, .int (0)), (0, .ref (h 6)), (1, .int (a1))]) hx hb d_L_difference_3 rfl hl (by decide) rfl (fun ls hl => ?_)
  exact kb_4 200 g (a1) (0) (0) H locs ls hP hD hS (lv_sub hl [2, 3, 1, 0] rfl) hF

theorem d_L_tellAll_0 : decode b_L_tellAll 0 = .ok (.iconst 0, 1) := by decide +kernel
theorem d_L_tellAll_1 : decode b_L_tellAll 1 = .ok (.istore_n 1, 1) := by decide +kernel
theorem d_L_tellAll_2 : decode b_L_tellAll 2 = .ok (.iload_n 1, 1) := by decide +kernel
theorem d_L_tellAll_3 : decode b_L_tellAll 3 = .ok (.aload_n 0, 1) := by decide +kernel
theorem d_L_tellAll_4 : decode b_L_tellAll 4 = .ok (.getfield 9, 3) := by decide +kernel
theorem d_L_tellAll_7 : decode b_L_tellAll 7 = .ok (.arraylength, 1) := by decide +kernel
theorem d_L_tellAll_8 : decode b_L_tellAll 8 = .ok (.if_icmp .ge 20, 3) := by decide +kernel
theorem d_L_tellAll_11 : decode b_L_tellAll 11 = .ok (.aload_n 0, 1) := by decide +kernel
theorem d_L_tellAll_12 : decode b_L_tellAll 12 = .ok (.getfield 9, 3) := by decide +kernel
theorem d_L_tellAll_15 : decode b_L_tellAll 15 = .ok (.iload_n 1, 1) := by decide +kernel
theorem d_L_tellAll_16 : decode b_L_tellAll 16 = .ok (.aload_n 0, 1) := by decide +kernel
theorem d_L_tellAll_17 : decode b_L_tellAll 17 = .ok (.iload_n 1, 1) := by decide +kernel
theorem d_L_tellAll_18 : decode b_L_tellAll 18 = .ok (.invokevirtual 29, 3) := by decide +kernel
theorem d_L_tellAll_21 : decode b_L_tellAll 21 = .ok (.iastore, 1) := by decide +kernel
theorem d_L_tellAll_22 : decode b_L_tellAll 22 = .ok (.iinc 1 1, 3) := by decide +kernel
theorem d_L_tellAll_25 : decode b_L_tellAll 25 = .ok (.goto (-23), 3) := by decide +kernel
theorem d_L_tellAll_28 : decode b_L_tellAll 28 = .ok (.return_, 1) := by decide +kernel
def f_L_tellAll_2  : Nat → Sg → Int32 → Option (Unit × Sg)
  | 0, _, _ => none
  | n + 1, g, x1 => (if 192 ≤ x1 then (some ((), g)) else (qs_bn (f_L_now g (x1)) fun r2 u3 => (qs_in (x1) 192 (qs_st (qs_a u3 16 x1.toNatClampNeg (r2)) fun u5 => (f_L_tellAll_2 n u5 (x1 + 1))))))
def f_L_tellAll (g : Sg)  : Option (Unit × Sg) := (f_L_tellAll_2 200 g (0))
set_option maxHeartbeats 4000000 in
set_option maxRecDepth 100000 in
theorem c_L_tellAll (l : Launch) (dC : Nat → ClassId) (dI : Nat → Nat → Nat) (h : Nat → Nat) (c : Nat → ClassId) (sz : Nat) (g : Sg)  (u0 : Sg) (hF : f_L_tellAll g  = some ((), u0)) : Met l y_L_tellAll (qs_ws y_L_tellAll b_L_tellAll 2 none) ({ frames := 2, cells := 0, slots := 0, locals := 45 } : Room) (va_Pc ([.ref (h 6)] : List Value) (fun U => U.heap.size = sz ∧ va_P (dC, dI) vwCl (qs_W h c g) U.heap ∧ va_K (dC, dI) vwCl (qs_T c) U ∧ va_D (fun _ => True) (qs_W h c g) ∧ qs_N U)) (va_Qv (fun (u : Sg) => u = u0) (qs_at dC dI h c (va_A (qs_W h c g) sz)) (va_A (qs_W h c g) sz)) 0 0 (va_A (qs_W h c g) sz) := by
  refine Met.ofW (cc := b_L_tellAll) (maxL := 2) (ret := none) (by decide +kernel) rfl ?_
  intro p e s m args below meth cd s₁ B hml hv
  obtain ⟨rfl, hsz, hP, hK, hD0, hNs⟩ := hv
  have hx := B.exec
  have hb := B.bytes
  have hr := B.returns
  have hts := atoms_spec (ws := (qs_ws y_L_tellAll b_L_tellAll 2 none)) B.pre
  have hg : ∀ w ∈ qs_gt, w.before _ s = true := fun w h => hts w (List.mem_cons_of_mem _ h)
  have hown : s.vm.findClass R_L = some m.cls := findClass_of_methodNamed B.named
  have hlocks := B.notSynchronized
  subst hsz
  have hD := hD0.self (sz := s.heap.size)
  generalize hAe : va_A (qs_W h c g) s.heap.size = A at hD ⊢
  have hA : ∀ q : Nat, s.heap.size ≤ q → A q := fun q h => by rw [← hAe]; exact Or.inr h
  have hS : va_S A s.heap s.heap [] := va_S.rf
  have kb_2 : ∀ n : Nat, ∀ (g : Sg) (x1 : Int32) (H : Heap) (locs : List Loc) (ls : Array Slot), va_P (dC, dI) vwCl (qs_W h c g) H → va_D A (qs_W h c g) → va_S A s.heap H locs → lv_has ls 2 [(0, .ref (h 6)), (1, .int (x1))] → f_L_tellAll_2 n g x1 = some ((), u0) → W p l e (headSpec (qs_ws y_L_tellAll b_L_tellAll 2 none) ({ frames := 2, cells := 0, slots := 0, locals := 45 } : Room)).room s m ([.ref (h 6)] : List Value).toArray below meth cd H locs 0 0 (MQ below (va_Qv (fun (u : Sg) => u = u0) (qs_at dC dI h c A) A) ([.ref (h 6)] : List Value).toArray s 0 0 A) (F0 m 2 ls []) := by
    intro n
    induction n with
    | zero =>
      intro g x1 H locs ls hP hD hS hl hF
      exact nomatch (show (none : Option (Unit × Sg)) = some _ from hF)
    | succ n ih =>
      intro g x1 H locs ls hP hD hS hl hF
      rw [f_L_tellAll_2] at hF
      refine lv_iload_n hx hb d_L_tellAll_2 rfl (lv_at hl 1 rfl) ?_
      refine lv_aload_n hx hb d_L_tellAll_3 rfl (lv_at hl 0 rfl) ?_
      refine va_get (D := (dC, dI)) (ci := 5) (v := .ref (h 16)) (C := R_L) (T := T_L) (N := 2) hx hb hg in_L hown hK hP 6 rfl rfl 1 (by decide) (hg _ t_150) (fun _ h9 => h9) rfl d_L_tellAll_4 ?_
      refine va_alen (v := 192) hx hb hK hP 16 9 rfl rfl (show Int32.ofNat 192 = 192 by decide) d_L_tellAll_7 ?_
      refine lv_icmp_ge (tgt := 28) hx hb d_L_tellAll_8 (by decide) (fun c1 => ?_) (fun c1 => ?_)
      · have hF := qs_pos c1 hF
        obtain ⟨h8, h9⟩ := qs_ret hF
        exact W.vret hx hb hr (fun t ht hW => ⟨⟨g, rfl, h9, by rw [ht]; exact hP, va_K.moved hW.alike hK, hD⟩, hS.F ht⟩) hS.2.2 d_L_tellAll_28
      · have hF := qs_neg c1 hF
        refine lv_aload_n hx hb d_L_tellAll_11 rfl (lv_at hl 0 rfl) ?_
        refine va_get (D := (dC, dI)) (ci := 5) (v := .ref (h 16)) (C := R_L) (T := T_L) (N := 2) hx hb hg in_L hown hK hP 6 rfl rfl 1 (by decide) (hg _ t_150) (fun _ h9 => h9) rfl d_L_tellAll_12 ?_
        refine lv_iload_n hx hb d_L_tellAll_15 rfl (lv_at hl 1 rfl) ?_
        refine lv_aload_n hx hb d_L_tellAll_16 rfl (lv_at hl 0 rfl) ?_
        refine lv_iload_n hx hb d_L_tellAll_17 rfl (lv_at hl 1 rfl) ?_
        obtain ⟨r2, u3, hX, hF⟩ := qs_bn_some hF
        refine qs_ci (Wd := qs_W h c) (isC := [0, 1, 2, 3, 4, 5, 6, 7, 8, 9, 10, 11, 12, 13, 14, 15, 16]) (va_runV (own := "QuakeServer$LastMessage") (C := "QuakeServer$LastMessage") (As := [.int (x1)]) (rest := [.int (x1), .ref (h 16)]) ⟨hx, hb, hml, hown, hg⟩ (c_L_now l dC dI h c H.size g (x1) r2 u3 hX) (cwV 1 hg (qs_gV t_183 t_185 tp_0 t_7 t_186) rfl rfl rfl (by decide +kernel) ⟨Nat.le_of_ble_eq_true rfl, Nat.le_of_ble_eq_true rfl⟩) ⟨qs_blind, va_recv hK hP (ci := 5) (q0 := 6) rfl rfl, fun U hU hW => ⟨rfl, by rw [hU], by rw [hU]; exact hP, va_K.moved hW.alike hK, hD.weaken (fun _ _ _ _ => trivial), hNs.warm hW⟩⟩ rfl rfl hl.1 rfl (lv_room (Nat.le_of_ble_eq_true rfl)) d_L_tellAll_18 ⟨Nat.le_of_ble_eq_true rfl, Nat.le_of_ble_eq_true rfl⟩) rfl hP hD hS hA (fun H locs hP hD hS => ?_)
        obtain ⟨c4, hF⟩ := qs_in_some hF
        refine va_iast hx hb hK hP hD hS 16 9 rfl rfl c4 d_L_tellAll_21 (fun H locs hP hD hS => ?_)
        obtain ⟨u5, hu5, hF⟩ := qs_st_some hF
        have hP : va_P (dC, dI) vwCl (qs_W h c u5) H := by rw [hu5]; exact hP
        have hD : va_D A (qs_W h c u5) := by rw [hu5]; exact hD
        clear hu5
        refine lv_iinc (v := x1 + 1) (lv' := [(1, .int (x1 + 1)), (0, .ref (h 6))]) hx hb d_L_tellAll_22 hl (k := 1) rfl (by rfl) (by decide) rfl (fun ls hl => ?_)
        refine lv_goto (tgt := 2) hx hb d_L_tellAll_25 (by decide) ?_
        exact ih u5 (x1 + 1) H locs ls hP hD hS (lv_sub hl [1, 0] rfl) hF
  have hl := lv_entry ([.ref (h 6)] : List Value) (n := 2) (Nat.le_of_ble_eq_true rfl)
  rw [lg_entry_eq]
  generalize (lg_sl ([.ref (h 6)] : List Value) ++ List.replicate (2 - (lg_sl ([.ref (h 6)] : List Value)).length) Slot.unset).toArray = ls at hl ⊢
  have hl : lv_has ls 2 [(0, .ref (h 6))] := hl
  unfold f_L_tellAll at hF
  obtain ⟨H, hHe⟩ : ∃ H, H = s.heap := ⟨_, rfl⟩
  obtain ⟨locs, hLe⟩ : ∃ L : List Loc, L = [] := ⟨_, rfl⟩
  rw [← hHe] at hP ⊢
  rw [← hLe]
  have hS : va_S A s.heap H locs := by rw [hHe, hLe]; exact hS
  refine lv_iconst (v := 0) hx hb d_L_tellAll_0 (by decide) ?_
  refine lv_istore_n (lv' := [(1, .int (0)), (0, .ref (h 6))]) hx hb d_L_tellAll_1 rfl hl (by decide) rfl (fun ls hl => ?_)
  exact kb_2 200 g (0) H locs ls hP hD hS (lv_sub hl [1, 0] rfl) hF

theorem d_Q_changes_0 : decode b_Q_changes 0 = .ok (.aload_n 0, 1) := by decide +kernel
theorem d_Q_changes_1 : decode b_Q_changes 1 = .ok (.getfield 53, 3) := by decide +kernel
theorem d_Q_changes_4 : decode b_Q_changes 4 = .ok (.invokevirtual 175, 3) := by decide +kernel
theorem d_Q_changes_7 : decode b_Q_changes 7 = .ok (.ireturn, 1) := by decide +kernel
def f_Q_changes (g : Sg)  : Option (Int32 × Sg) := (qs_bn (f_L_differences g ) fun r1 u2 => (some (r1, u2)))
set_option maxHeartbeats 4000000 in
set_option maxRecDepth 100000 in
theorem c_Q_changes (l : Launch) (dC : Nat → ClassId) (dI : Nat → Nat → Nat) (h : Nat → Nat) (c : Nat → ClassId) (sz : Nat) (g : Sg)  (r0 : Int32) (u0 : Sg) (hF : f_Q_changes g  = some (r0, u0)) : Met l y_Q_changes (qs_ws y_Q_changes b_Q_changes 1 (some .int)) ({ frames := 3, cells := 0, slots := 0, locals := 67 } : Room) (va_Pc ([.ref (h 0)] : List Value) (fun U => U.heap.size = sz ∧ va_P (dC, dI) vwCl (qs_W h c g) U.heap ∧ va_K (dC, dI) vwCl (qs_T c) U ∧ va_D (fun _ => True) (qs_W h c g) ∧ qs_N U)) (va_Qi (fun (r : Int32) (u : Sg) => r = r0 ∧ u = u0) (qs_at dC dI h c (va_A (qs_W h c g) sz)) (va_A (qs_W h c g) sz)) 0 0 (va_A (qs_W h c g) sz) := by
  refine Met.ofW (cc := b_Q_changes) (maxL := 1) (ret := (some .int)) (by decide +kernel) rfl ?_
  intro p e s m args below meth cd s₁ B hml hv
  obtain ⟨rfl, hsz, hP, hK, hD0, hNs⟩ := hv
  have hx := B.exec
  have hb := B.bytes
  have hr := B.returns
  have hts := atoms_spec (ws := (qs_ws y_Q_changes b_Q_changes 1 (some .int))) B.pre
  have hg : ∀ w ∈ qs_gt, w.before _ s = true := fun w h => hts w (List.mem_cons_of_mem _ h)
  have hown : s.vm.findClass R_Q = some m.cls := findClass_of_methodNamed B.named
  have hlocks := B.notSynchronized
  subst hsz
  have hD := hD0.self (sz := s.heap.size)
  generalize hAe : va_A (qs_W h c g) s.heap.size = A at hD ⊢
  have hA : ∀ q : Nat, s.heap.size ≤ q → A q := fun q h => by rw [← hAe]; exact Or.inr h
  have hS : va_S A s.heap s.heap [] := va_S.rf
  have hl := lv_entry ([.ref (h 0)] : List Value) (n := 1) (Nat.le_of_ble_eq_true rfl)
  rw [lg_entry_eq]
  generalize (lg_sl ([.ref (h 0)] : List Value) ++ List.replicate (1 - (lg_sl ([.ref (h 0)] : List Value)).length) Slot.unset).toArray = ls at hl ⊢
  have hl : lv_has ls 1 [(0, .ref (h 0))] := hl
  unfold f_Q_changes at hF
  obtain ⟨H, hHe⟩ : ∃ H, H = s.heap := ⟨_, rfl⟩
  obtain ⟨locs, hLe⟩ : ∃ L : List Loc, L = [] := ⟨_, rfl⟩
  rw [← hHe] at hP ⊢
  rw [← hLe]
  have hS : va_S A s.heap H locs := by rw [hHe, hLe]; exact hS
  refine lv_aload_n hx hb d_Q_changes_0 rfl (lv_at hl 0 rfl) ?_
  refine va_get (D := (dC, dI)) (ci := 6) (v := .ref (h 6)) (C := R_Q) (T := T_Q) (N := 6) hx hb hg in_Q hown hK hP 0 rfl rfl 5 (by decide) (hg _ t_161) (fun _ h9 => h9) rfl d_Q_changes_1 ?_
  obtain ⟨r1, u2, hX, hF⟩ := qs_bn_some hF
  refine qs_ci (Wd := qs_W h c) (isC := [0, 1, 2, 3, 4, 5, 6, 7, 8, 9, 10, 11, 12, 13, 14, 15, 16]) (va_runV (own := "QuakeServer") (C := "QuakeServer$LastMessage") (As := []) (rest := []) ⟨hx, hb, hml, hown, hg⟩ (c_L_differences l dC dI h c H.size g  r1 u2 hX) (cwV 0 hg (qs_gV t_179 t_180 t_181 t_7 t_182) rfl rfl rfl (by decide +kernel) ⟨Nat.le_of_ble_eq_true rfl, Nat.le_of_ble_eq_true rfl⟩) ⟨qs_blind, va_recv hK hP (ci := 5) (q0 := 6) rfl rfl, fun U hU hW => ⟨rfl, by rw [hU], by rw [hU]; exact hP, va_K.moved hW.alike hK, hD.weaken (fun _ _ _ _ => trivial), hNs.warm hW⟩⟩ rfl rfl hl.1 rfl (lv_room (Nat.le_of_ble_eq_true rfl)) d_Q_changes_4 ⟨Nat.le_of_ble_eq_true rfl, Nat.le_of_ble_eq_true rfl⟩) rfl hP hD hS hA (fun H locs hP hD hS => ?_)
  obtain ⟨h8, h9⟩ := qs_ret hF
  exact W.iret (v := r1) hx hb hr (fun t ht hW => ⟨⟨r1, u2, rfl, ⟨h8, h9⟩, by rw [ht]; exact hP, va_K.moved hW.alike hK, hD⟩, hS.F ht⟩) hS.2.2 d_Q_changes_7

theorem d_Q_message_0 : decode b_Q_message 0 = .ok (.aload_n 0, 1) := by decide +kernel
theorem d_Q_message_1 : decode b_Q_message 1 = .ok (.getfield 53, 3) := by decide +kernel
theorem d_Q_message_4 : decode b_Q_message 4 = .ok (.invokevirtual 175, 3) := by decide +kernel
theorem d_Q_message_7 : decode b_Q_message 7 = .ok (.istore_n 1, 1) := by decide +kernel
theorem d_Q_message_8 : decode b_Q_message 8 = .ok (.aload_n 0, 1) := by decide +kernel
theorem d_Q_message_9 : decode b_Q_message 9 = .ok (.getfield 53, 3) := by decide +kernel
theorem d_Q_message_12 : decode b_Q_message 12 = .ok (.invokevirtual 183, 3) := by decide +kernel
theorem d_Q_message_15 : decode b_Q_message 15 = .ok (.iload_n 1, 1) := by decide +kernel
theorem d_Q_message_16 : decode b_Q_message 16 = .ok (.ireturn, 1) := by decide +kernel
def f_Q_message (g : Sg)  : Option (Int32 × Sg) := (qs_bn (f_L_differences g ) fun r1 u2 => (qs_bn (f_L_tellAll u2 ) fun _ u4 => (some (r1, u4))))
set_option maxHeartbeats 4000000 in
set_option maxRecDepth 100000 in
theorem c_Q_message (l : Launch) (dC : Nat → ClassId) (dI : Nat → Nat → Nat) (h : Nat → Nat) (c : Nat → ClassId) (sz : Nat) (g : Sg)  (r0 : Int32) (u0 : Sg) (hF : f_Q_message g  = some (r0, u0)) : Met l y_Q_message (qs_ws y_Q_message b_Q_message 2 (some .int)) ({ frames := 3, cells := 0, slots := 0, locals := 67 } : Room) (va_Pc ([.ref (h 0)] : List Value) (fun U => U.heap.size = sz ∧ va_P (dC, dI) vwCl (qs_W h c g) U.heap ∧ va_K (dC, dI) vwCl (qs_T c) U ∧ va_D (fun _ => True) (qs_W h c g) ∧ qs_N U)) (va_Qi (fun (r : Int32) (u : Sg) => r = r0 ∧ u = u0) (qs_at dC dI h c (va_A (qs_W h c g) sz)) (va_A (qs_W h c g) sz)) 0 0 (va_A (qs_W h c g) sz) := by
  refine Met.ofW (cc := b_Q_message) (maxL := 2) (ret := (some .int)) (by decide +kernel) rfl ?_
  intro p e s m args below meth cd s₁ B hml hv
  obtain ⟨rfl, hsz, hP, hK, hD0, hNs⟩ := hv
  have hx := B.exec
  have hb := B.bytes
  have hr := B.returns
  have hts := atoms_spec (ws := (qs_ws y_Q_message b_Q_message 2 (some .int))) B.pre
  have hg : ∀ w ∈ qs_gt, w.before _ s = true := fun w h => hts w (List.mem_cons_of_mem _ h)
  have hown : s.vm.findClass R_Q = some m.cls := findClass_of_methodNamed B.named
  have hlocks := B.notSynchronized
  subst hsz
  have hD := hD0.self (sz := s.heap.size)
  generalize hAe : va_A (qs_W h c g) s.heap.size = A at hD ⊢
  have hA : ∀ q : Nat, s.heap.size ≤ q → A q := fun q h => by rw [← hAe]; exact Or.inr h
  have hS : va_S A s.heap s.heap [] := va_S.rf
  have hl := lv_entry ([.ref (h 0)] : List Value) (n := 2) (Nat.le_of_ble_eq_true rfl)
  rw [lg_entry_eq]
  generalize (lg_sl ([.ref (h 0)] : List Value) ++ List.replicate (2 - (lg_sl ([.ref (h 0)] : List Value)).length) Slot.unset).toArray = ls at hl ⊢
  have hl : lv_has ls 2 [(0, .ref (h 0))] := hl
  unfold f_Q_message at hF
  obtain ⟨H, hHe⟩ : ∃ H, H = s.heap := ⟨_, rfl⟩
  obtain ⟨locs, hLe⟩ : ∃ L : List Loc, L = [] := ⟨_, rfl⟩
  rw [← hHe] at hP ⊢
  rw [← hLe]
  have hS : va_S A s.heap H locs := by rw [hHe, hLe]; exact hS
  refine lv_aload_n hx hb d_Q_message_0 rfl (lv_at hl 0 rfl) ?_
  refine va_get (D := (dC, dI)) (ci := 6) (v := .ref (h 6)) (C := R_Q) (T := T_Q) (N := 6) hx hb hg in_Q hown hK hP 0 rfl rfl 5 (by decide) (hg _ t_161) (fun _ h9 => h9) rfl d_Q_message_1 ?_
  obtain ⟨r1, u2, hX, hF⟩ := qs_bn_some hF
  refine qs_ci (Wd := qs_W h c) (isC := [0, 1, 2, 3, 4, 5, 6, 7, 8, 9, 10, 11, 12, 13, 14, 15, 16]) (va_runV (own := "QuakeServer") (C := "QuakeServer$LastMessage") (As := []) (rest := []) ⟨hx, hb, hml, hown, hg⟩ (c_L_differences l dC dI h c H.size g  r1 u2 hX) (cwV 0 hg (qs_gV t_179 t_180 t_181 t_7 t_182) rfl rfl rfl (by decide +kernel) ⟨Nat.le_of_ble_eq_true rfl, Nat.le_of_ble_eq_true rfl⟩) ⟨qs_blind, va_recv hK hP (ci := 5) (q0 := 6) rfl rfl, fun U hU hW => ⟨rfl, by rw [hU], by rw [hU]; exact hP, va_K.moved hW.alike hK, hD.weaken (fun _ _ _ _ => trivial), hNs.warm hW⟩⟩ rfl rfl hl.1 rfl (lv_room (Nat.le_of_ble_eq_true rfl)) d_Q_message_4 ⟨Nat.le_of_ble_eq_true rfl, Nat.le_of_ble_eq_true rfl⟩) rfl hP hD hS hA (fun H locs hP hD hS => ?_)
  refine lv_istore_n (lv' := [(1, .int (r1)), (0, .ref (h 0))]) hx hb d_Q_message_7 rfl hl (by decide) rfl (fun ls hl => ?_)
  refine lv_aload_n hx hb d_Q_message_8 rfl (lv_at hl 1 rfl) ?_
  refine va_get (D := (dC, dI)) (ci := 6) (v := .ref (h 6)) (C := R_Q) (T := T_Q) (N := 6) hx hb hg in_Q hown hK hP 0 rfl rfl 5 (by decide) (hg _ t_161) (fun _ h9 => h9) rfl d_Q_message_9 ?_
  obtain ⟨r3, u4, hX, hF⟩ := qs_bn_some hF
  refine qs_cv (Wd := qs_W h c) (isC := [0, 1, 2, 3, 4, 5, 6, 7, 8, 9, 10, 11, 12, 13, 14, 15, 16]) (va_runV (own := "QuakeServer") (C := "QuakeServer$LastMessage") (As := []) (rest := []) ⟨hx, hb, hml, hown, hg⟩ (c_L_tellAll l dC dI h c H.size u2   u4 hX) (cwV 0 hg (qs_gV t_199 t_200 t_201 t_7 t_202) rfl rfl rfl (by decide +kernel) ⟨Nat.le_of_ble_eq_true rfl, Nat.le_of_ble_eq_true rfl⟩) ⟨qs_blind, va_recv hK hP (ci := 5) (q0 := 6) rfl rfl, fun U hU hW => ⟨rfl, by rw [hU], by rw [hU]; exact hP, va_K.moved hW.alike hK, hD.weaken (fun _ _ _ _ => trivial), hNs.warm hW⟩⟩ rfl rfl hl.1 rfl (lv_room (Nat.le_of_ble_eq_true rfl)) d_Q_message_12 ⟨Nat.le_of_ble_eq_true rfl, Nat.le_of_ble_eq_true rfl⟩) rfl hP hD hS hA (fun H locs hP hD hS => ?_)
  refine lv_iload_n hx hb d_Q_message_15 rfl (lv_at hl 0 rfl) ?_
  obtain ⟨h8, h9⟩ := qs_ret hF
  exact W.iret (v := r1) hx hb hr (fun t ht hW => ⟨⟨r1, u4, rfl, ⟨h8, h9⟩, by rw [ht]; exact hP, va_K.moved hW.alike hK, hD⟩, hS.F ht⟩) hS.2.2 d_Q_message_16
