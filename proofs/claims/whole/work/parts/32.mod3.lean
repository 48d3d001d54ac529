theorem d_N_drawn_0 : decode b_N_drawn 0 = .ok (.aload_n 0, 1) := by decide +kernel
theorem d_N_drawn_1 : decode b_N_drawn 1 = .ok (.aload_n 0, 1) := by decide +kernel
theorem d_N_drawn_2 : decode b_N_drawn 2 = .ok (.getfield 45, 3) := by decide +kernel
theorem d_N_drawn_5 : decode b_N_drawn 5 = .ok (.i2l, 1) := by decide +kernel
theorem d_N_drawn_6 : decode b_N_drawn 6 = .ok (.ldc2_w 104, 3) := by decide +kernel
theorem d_N_drawn_9 : decode b_N_drawn 9 = .ok (.lmul, 1) := by decide +kernel
theorem d_N_drawn_10 : decode b_N_drawn 10 = .ok (.ldc2_w 106, 3) := by decide +kernel
theorem d_N_drawn_13 : decode b_N_drawn 13 = .ok (.ladd, 1) := by decide +kernel
theorem d_N_drawn_14 : decode b_N_drawn 14 = .ok (.ldc2_w 108, 3) := by decide +kernel
theorem d_N_drawn_17 : decode b_N_drawn 17 = .ok (.lrem, 1) := by decide +kernel
theorem d_N_drawn_18 : decode b_N_drawn 18 = .ok (.l2i, 1) := by decide +kernel
theorem d_N_drawn_19 : decode b_N_drawn 19 = .ok (.putfield 45, 3) := by decide +kernel
theorem d_N_drawn_22 : decode b_N_drawn 22 = .ok (.aload_n 0, 1) := by decide +kernel
theorem d_N_drawn_23 : decode b_N_drawn 23 = .ok (.getfield 45, 3) := by decide +kernel
theorem d_N_drawn_26 : decode b_N_drawn 26 = .ok (.ldc 110, 2) := by decide +kernel
theorem d_N_drawn_28 : decode b_N_drawn 28 = .ok (.idiv, 1) := by decide +kernel
theorem d_N_drawn_29 : decode b_N_drawn 29 = .ok (.bipush 8, 2) := by decide +kernel
theorem d_N_drawn_31 : decode b_N_drawn 31 = .ok (.irem, 1) := by decide +kernel
theorem d_N_drawn_32 : decode b_N_drawn 32 = .ok (.i2l, 1) := by decide +kernel
theorem d_N_drawn_33 : decode b_N_drawn 33 = .ok (.lreturn, 1) := by decide +kernel
def f_N_drawn (g : Sm)  : Option (Int64 × Sm) := (qs_st (qm_i g 23 ((((((g.1 23 0).toInt64) * (1103515245 : Int64)) + (12345 : Int64)) - ((((g.1 23 0).toInt64) * (1103515245 : Int64)) + (12345 : Int64)) / (2147483648 : Int64) * (2147483648 : Int64)).toInt32)) fun u1 => (some ((((u1.1 23 0) / 65536) - ((u1.1 23 0) / 65536) / 8 * 8).toInt64, u1)))
set_option maxHeartbeats 4000000 in
set_option maxRecDepth 100000 in
theorem c_N_drawn (l : Launch) (dC : Nat → ClassId) (dI : Nat → Nat → Nat) (h : Nat → Nat) (c : Nat → ClassId) (sz : Nat) (g : Sm)  (r0 : Int64) (u0 : Sm) (hF : f_N_drawn g  = some (r0, u0)) : Met l y_N_drawn (qs_ws y_N_drawn b_N_drawn 1 (some .long)) ({ frames := 0, cells := 0, slots := 0, locals := 0 } : Room) (va_Pc ([.ref (h 0)] : List Value) (fun U => U.heap.size = sz ∧ va_P (dC, dI) vwCl (ms_W h c g) U.heap ∧ va_K (dC, dI) vwCl (ms_T c) U ∧ va_D (fun _ => True) (ms_W h c g) ∧ qs_N U)) (va_Ql (fun (r : Int64) (u : Sm) => r = r0 ∧ u = u0) (ms_at dC dI h c (va_A (ms_W h c g) sz)) (va_A (ms_W h c g) sz)) 0 0 (va_A (ms_W h c g) sz) := by
  refine Met.ofW (cc := b_N_drawn) (maxL := 1) (ret := (some .long)) (by decide +kernel) rfl ?_
  intro p e s m args below meth cd s₁ B hml hv
  obtain ⟨rfl, hsz, hP, hK, hD0, hNs⟩ := hv
  have hx := B.exec
  have hb := B.bytes
  have hr := B.returns
  have hts := atoms_spec (ws := (qs_ws y_N_drawn b_N_drawn 1 (some .long))) B.pre
  have hg : ∀ w ∈ qs_gt, w.before _ s = true := fun w h => hts w (List.mem_cons_of_mem _ h)
  have hown : s.vm.findClass R_N = some m.cls := findClass_of_methodNamed B.named
  have hlocks := B.notSynchronized
  subst hsz
  have hD := hD0.self (sz := s.heap.size)
  generalize hAe : va_A (ms_W h c g) s.heap.size = A at hD ⊢
  have hA : ∀ q : Nat, s.heap.size ≤ q → A q := fun q h => by rw [← hAe]; exact Or.inr h
  have hS : va_S A s.heap s.heap [] := va_S.rf
  have hl := lv_entry ([.ref (h 0)] : List Value) (n := 1) (Nat.le_of_ble_eq_true rfl)
  rw [lg_entry_eq]
  generalize (lg_sl ([.ref (h 0)] : List Value) ++ List.replicate (1 - (lg_sl ([.ref (h 0)] : List Value)).length) Slot.unset).toArray = ls at hl ⊢
  have hl : lv_has ls 1 [(0, .ref (h 0))] := hl
  unfold f_N_drawn at hF
  obtain ⟨H, hHe⟩ : ∃ H, H = s.heap := ⟨_, rfl⟩
  obtain ⟨locs, hLe⟩ : ∃ L : List Loc, L = [] := ⟨_, rfl⟩
  rw [← hHe] at hP ⊢
  rw [← hLe]
  have hS : va_S A s.heap H locs := by rw [hHe, hLe]; exact hS
  refine lv_aload_n hx hb d_N_drawn_0 rfl (lv_at hl 0 rfl) ?_
  refine lv_aload_n hx hb d_N_drawn_1 rfl (lv_at hl 0 rfl) ?_
  refine va_get (D := (dC, dI)) (ci := 7) (v := .int (g.1 23 0)) (C := R_N) (T := T_N) (N := 22) hx hb hg in_N hown hK hP 0 rfl rfl 14 (by decide) (hg _ t_632) (fun _ h9 => h9) rfl d_N_drawn_2 ?_
  refine lv_i2l (v := (g.1 23 0).toInt64) hx hb d_N_drawn_5 rfl ?_
  refine lv_ldc2 (v := 1103515245) hx hb hown (hg _ t_795) d_N_drawn_6 ?_
  refine lv_lmul hx hb d_N_drawn_9 ?_
  refine lv_ldc2 (v := 12345) hx hb hown (hg _ t_796) d_N_drawn_10 ?_
  refine lv_ladd hx hb d_N_drawn_13 ?_
  refine lv_ldc2 (v := 2147483648) hx hb hown (hg _ t_797) d_N_drawn_14 ?_
  refine lv_lrem hx hb d_N_drawn_17 (by decide) ?_
  refine lv_l2i (v := (((((g.1 23 0).toInt64) * (1103515245 : Int64)) + (12345 : Int64)) - ((((g.1 23 0).toInt64) * (1103515245 : Int64)) + (12345 : Int64)) / (2147483648 : Int64) * (2147483648 : Int64)).toInt32) hx hb d_N_drawn_18 rfl ?_
  refine va_put (D := (dC, dI)) (ci := 7) (v := .int ((((((g.1 23 0).toInt64) * (1103515245 : Int64)) + (12345 : Int64)) - ((((g.1 23 0).toInt64) * (1103515245 : Int64)) + (12345 : Int64)) / (2147483648 : Int64) * (2147483648 : Int64)).toInt32)) (ty := .int) (C := R_N) (T := T_N) (N := 22) hx hb hg in_N ty_N ty_N_ok nm_N hown hK hP hD hS 0 rfl rfl 14 (by decide) (hg _ t_632) (fun _ h9 => h9) rfl (by decide +kernel) rfl rfl (Nat.le_of_ble_eq_true rfl) d_N_drawn_19 (fun H locs hP hD hS => ?_)
  obtain ⟨u1, hu1, hF⟩ := qs_st_some hF
  have hP : va_P (dC, dI) vwCl (ms_W h c u1) H := by rw [hu1]; exact hP
  have hD : va_D A (ms_W h c u1) := by rw [hu1]; exact hD
  clear hu1
  refine lv_aload_n hx hb d_N_drawn_22 rfl (lv_at hl 0 rfl) ?_
  refine va_get (D := (dC, dI)) (ci := 7) (v := .int (u1.1 23 0)) (C := R_N) (T := T_N) (N := 22) hx hb hg in_N hown hK hP 0 rfl rfl 14 (by decide) (hg _ t_632) (fun _ h9 => h9) rfl d_N_drawn_23 ?_
  refine lv_ldc (v := 65536) hx hb hown (hg _ t_798) d_N_drawn_26 ?_
  refine lv_idiv hx hb d_N_drawn_28 (by decide) ?_
  refine lv_bipush (v := 8) hx hb d_N_drawn_29 (by decide) ?_
  refine lv_irem hx hb d_N_drawn_31 (by decide) ?_
  refine lv_i2l (v := (((u1.1 23 0) / 65536) - ((u1.1 23 0) / 65536) / 8 * 8).toInt64) hx hb d_N_drawn_32 rfl ?_
  obtain ⟨h8, h9⟩ := qs_ret hF
  exact W.lret (v := (((u1.1 23 0) / 65536) - ((u1.1 23 0) / 65536) / 8 * 8).toInt64) hx hb hr (fun t ht hW => ⟨⟨((((u1.1 23 0) / 65536) - ((u1.1 23 0) / 65536) / 8 * 8).toInt64), u1, rfl, ⟨h8, h9⟩, by rw [ht]; exact hP, va_K.moved hW.alike hK, hD⟩, hS.F ht⟩) hS.2.2 d_N_drawn_33

theorem d_N_behind_0 : decode b_N_behind 0 = .ok (.iconst 0, 1) := by decide +kernel
theorem d_N_behind_1 : decode b_N_behind 1 = .ok (.istore_n 2, 1) := by decide +kernel
theorem d_N_behind_2 : decode b_N_behind 2 = .ok (.iload_n 2, 1) := by decide +kernel
theorem d_N_behind_3 : decode b_N_behind 3 = .ok (.bipush 12, 2) := by decide +kernel
theorem d_N_behind_5 : decode b_N_behind 5 = .ok (.if_icmp .ge 30, 3) := by decide +kernel
theorem d_N_behind_8 : decode b_N_behind 8 = .ok (.iload_n 2, 1) := by decide +kernel
theorem d_N_behind_9 : decode b_N_behind 9 = .ok (.iload_n 1, 1) := by decide +kernel
theorem d_N_behind_10 : decode b_N_behind 10 = .ok (.if_icmp .le 19, 3) := by decide +kernel
theorem d_N_behind_13 : decode b_N_behind 13 = .ok (.aload_n 0, 1) := by decide +kernel
theorem d_N_behind_14 : decode b_N_behind 14 = .ok (.getfield 13, 3) := by decide +kernel
theorem d_N_behind_17 : decode b_N_behind 17 = .ok (.iload_n 2, 1) := by decide +kernel
theorem d_N_behind_18 : decode b_N_behind 18 = .ok (.baload, 1) := by decide +kernel
theorem d_N_behind_19 : decode b_N_behind 19 = .ok (.ifCond .eq 10, 3) := by decide +kernel
theorem d_N_behind_22 : decode b_N_behind 22 = .ok (.ldc2_w 59, 3) := by decide +kernel
theorem d_N_behind_25 : decode b_N_behind 25 = .ok (.iload_n 2, 1) := by decide +kernel
theorem d_N_behind_26 : decode b_N_behind 26 = .ok (.i2l, 1) := by decide +kernel
theorem d_N_behind_27 : decode b_N_behind 27 = .ok (.lmul, 1) := by decide +kernel
theorem d_N_behind_28 : decode b_N_behind 28 = .ok (.lreturn, 1) := by decide +kernel
theorem d_N_behind_29 : decode b_N_behind 29 = .ok (.iinc 2 1, 3) := by decide +kernel
theorem d_N_behind_32 : decode b_N_behind 32 = .ok (.goto (-30), 3) := by decide +kernel
theorem d_N_behind_35 : decode b_N_behind 35 = .ok (.ldc2_w 111, 3) := by decide +kernel
theorem d_N_behind_38 : decode b_N_behind 38 = .ok (.lreturn, 1) := by decide +kernel
def f_N_behind_29 (k2 : Sm → Int32 → Int32 → Option (Int64 × Sm)) (g : Sm) (x1 : Int32) (x2 : Int32) : Option (Int64 × Sm) := (k2 g (x1) (x2 + 1))
def f_N_behind_2  : Nat → Sm → Int32 → Int32 → Option (Int64 × Sm)
  | 0, _, _, _ => none
  | n + 1, g, x1, x2 => (if 12 ≤ x2 then (some ((-8 : Int64), g)) else (if x2 ≤ x1 then (f_N_behind_29 (fun g x1 x2 => f_N_behind_2  n g x1 x2) g (x1) (x2)) else (qs_in (x2) 12 (if (g.1 2 x2.toNatClampNeg) = 0 then (f_N_behind_29 (fun g x1 x2 => f_N_behind_2  n g x1 x2) g (x1) (x2)) else (some ((8 : Int64) * (x2.toInt64), g))))))
def f_N_behind (g : Sm) (a1 : Int32) : Option (Int64 × Sm) := (f_N_behind_2 200 g (a1) (0))
set_option maxHeartbeats 4000000 in
set_option maxRecDepth 100000 in
theorem c_N_behind (l : Launch) (dC : Nat → ClassId) (dI : Nat → Nat → Nat) (h : Nat → Nat) (c : Nat → ClassId) (sz : Nat) (g : Sm) (a1 : Int32) (r0 : Int64) (u0 : Sm) (hF : f_N_behind g a1 = some (r0, u0)) : Met l y_N_behind (qs_ws y_N_behind b_N_behind 3 (some .long)) ({ frames := 0, cells := 0, slots := 0, locals := 0 } : Room) (va_Pc ([.ref (h 0), .int a1] : List Value) (fun U => U.heap.size = sz ∧ va_P (dC, dI) vwCl (ms_W h c g) U.heap ∧ va_K (dC, dI) vwCl (ms_T c) U ∧ va_D (fun _ => True) (ms_W h c g) ∧ qs_N U)) (va_Ql (fun (r : Int64) (u : Sm) => r = r0 ∧ u = u0) (ms_at dC dI h c (va_A (ms_W h c g) sz)) (va_A (ms_W h c g) sz)) 0 0 (va_A (ms_W h c g) sz) := by
  refine Met.ofW (cc := b_N_behind) (maxL := 3) (ret := (some .long)) (by decide +kernel) rfl ?_
  intro p e s m args below meth cd s₁ B hml hv
  obtain ⟨rfl, hsz, hP, hK, hD0, hNs⟩ := hv
  have hx := B.exec
  have hb := B.bytes
  have hr := B.returns
  have hts := atoms_spec (ws := (qs_ws y_N_behind b_N_behind 3 (some .long))) B.pre
  have hg : ∀ w ∈ qs_gt, w.before _ s = true := fun w h => hts w (List.mem_cons_of_mem _ h)
  have hown : s.vm.findClass R_N = some m.cls := findClass_of_methodNamed B.named
  have hlocks := B.notSynchronized
  subst hsz
  have hD := hD0.self (sz := s.heap.size)
  generalize hAe : va_A (ms_W h c g) s.heap.size = A at hD ⊢
  have hA : ∀ q : Nat, s.heap.size ≤ q → A q := fun q h => by rw [← hAe]; exact Or.inr h
  have hS : va_S A s.heap s.heap [] := va_S.rf
  have kb_29 : ∀ (k2 : Sm → Int32 → Int32 → Option (Int64 × Sm)), (∀ (g : Sm) (x1 : Int32) (x2 : Int32) (H : Heap) (locs : List Loc) (ls : Array Slot), va_P (dC, dI) vwCl (ms_W h c g) H → va_D A (ms_W h c g) → va_S A s.heap H locs → lv_has ls 3 [(0, .ref (h 0)), (1, .int (x1)), (2, .int (x2))] → k2 g x1 x2 = some (r0, u0) → W p l e (headSpec (qs_ws y_N_behind b_N_behind 3 (some .long)) ({ frames := 0, cells := 0, slots := 0, locals := 0 } : Room)).room s m ([.ref (h 0), .int a1] : List Value).toArray below meth cd H locs 0 0 (MQ below (va_Ql (fun (r : Int64) (u : Sm) => r = r0 ∧ u = u0) (ms_at dC dI h c A) A) ([.ref (h 0), .int a1] : List Value).toArray s 0 0 A) (F0 m 2 ls [])) → ∀ (g : Sm) (x1 : Int32) (x2 : Int32) (H : Heap) (locs : List Loc) (ls : Array Slot), va_P (dC, dI) vwCl (ms_W h c g) H → va_D A (ms_W h c g) → va_S A s.heap H locs → lv_has ls 3 [(0, .ref (h 0)), (1, .int (x1)), (2, .int (x2))] → f_N_behind_29 k2  g x1 x2 = some (r0, u0) → W p l e (headSpec (qs_ws y_N_behind b_N_behind 3 (some .long)) ({ frames := 0, cells := 0, slots := 0, locals := 0 } : Room)).room s m ([.ref (h 0), .int a1] : List Value).toArray below meth cd H locs 0 0 (MQ below (va_Ql (fun (r : Int64) (u : Sm) => r = r0 ∧ u = u0) (ms_at dC dI h c A) A) ([.ref (h 0), .int a1] : List Value).toArray s 0 0 A) (F0 m 29 ls []) := by
    intro k2 hk2
    intro g x1 x2 H locs ls hP hD hS hl hF
    unfold f_N_behind_29 at hF
    refine lv_iinc (v := x2 + 1) (lv' := [(2, .int (x2 + 1)), (0, .ref (h 0)), (1, .int (x1))]) hx hb d_N_behind_29 hl (k := 2) rfl (by rfl) (by decide) rfl (fun ls hl => ?_)
    refine lv_goto (tgt := 2) hx hb d_N_behind_32 (by decide) ?_
    exact hk2 g (x1) (x2 + 1) H locs ls hP hD hS (lv_sub hl [1, 2, 0] rfl) hF
  have kb_2 : ∀ n : Nat, ∀ (g : Sm) (x1 : Int32) (x2 : Int32) (H : Heap) (locs : List Loc) (ls : Array Slot), va_P (dC, dI) vwCl (ms_W h c g) H → va_D A (ms_W h c g) → va_S A s.heap H locs → lv_has ls 3 [(0, .ref (h 0)), (1, .int (x1)), (2, .int (x2))] → f_N_behind_2 n g x1 x2 = some (r0, u0) → W p l e (headSpec (qs_ws y_N_behind b_N_behind 3 (some .long)) ({ frames := 0, cells := 0, slots := 0, locals := 0 } : Room)).room s m ([.ref (h 0), .int a1] : List Value).toArray below meth cd H locs 0 0 (MQ below (va_Ql (fun (r : Int64) (u : Sm) => r = r0 ∧ u = u0) (ms_at dC dI h c A) A) ([.ref (h 0), .int a1] : List Value).toArray s 0 0 A) (F0 m 2 ls []) := by
    intro n
    induction n with
    | zero =>
      intro g x1 x2 H locs ls hP hD hS hl hF
      exact nomatch (show (none : Option (Int64 × Sm)) = some _ from hF)
    | succ n ih =>
      intro g x1 x2 H locs ls hP hD hS hl hF
      rw [f_N_behind_2] at hF
      refine lv_iload_n hx hb d_N_behind_2 rfl (lv_at hl 2 rfl) ?_
      refine lv_bipush (v := 12) hx hb d_N_behind_3 (by decide) ?_
      refine lv_icmp_ge (tgt := 35) hx hb d_N_behind_5 (by decide) (fun c1 => ?_) (fun c1 => ?_)
      · have hF := qs_pos c1 hF
        refine lv_ldc2 (v := (-8)) hx hb hown (hg _ t_790) d_N_behind_35 ?_
        obtain ⟨h8, h9⟩ := qs_ret hF
        exact W.lret (v := (-8 : Int64)) hx hb hr (fun t ht hW => ⟨⟨(-8 : Int64), g, rfl, ⟨h8, h9⟩, by rw [ht]; exact hP, va_K.moved hW.alike hK, hD⟩, hS.F ht⟩) hS.2.2 d_N_behind_38
      · have hF := qs_neg c1 hF
        refine lv_iload_n hx hb d_N_behind_8 rfl (lv_at hl 2 rfl) ?_
        refine lv_iload_n hx hb d_N_behind_9 rfl (lv_at hl 1 rfl) ?_
        refine lv_icmp_le (tgt := 29) hx hb d_N_behind_10 (by decide) (fun c2 => ?_) (fun c2 => ?_)
        · have hF := qs_pos c2 hF
          exact kb_29 _ ih g (x1) (x2) H locs ls hP hD hS (lv_sub hl [0, 1, 2] rfl) hF
        · have hF := qs_neg c2 hF
          refine lv_aload_n hx hb d_N_behind_13 rfl (lv_at hl 0 rfl) ?_
          refine va_get (D := (dC, dI)) (ci := 7) (v := .ref (h 2)) (C := R_N) (T := T_N) (N := 22) hx hb hg in_N hown hK hP 0 rfl rfl 2 (by decide) (hg _ t_620) (fun _ h9 => h9) rfl d_N_behind_14 ?_
          refine lv_iload_n hx hb d_N_behind_17 rfl (lv_at hl 2 rfl) ?_
          obtain ⟨c3, hF⟩ := qs_in_some hF
          refine va_zald hx hb hK hP 2 1 rfl rfl c3 d_N_behind_18 ?_
          refine lv_if_eq (tgt := 29) hx hb d_N_behind_19 (by decide) (fun c4 => ?_) (fun c4 => ?_)
          · have hF := qs_pos c4 hF
            exact kb_29 _ ih g (x1) (x2) H locs ls hP hD hS (lv_sub hl [0, 1, 2] rfl) hF
          · have hF := qs_neg c4 hF
            refine lv_ldc2 (v := 8) hx hb hown (hg _ t_701) d_N_behind_22 ?_
            refine lv_iload_n hx hb d_N_behind_25 rfl (lv_at hl 2 rfl) ?_
            refine lv_i2l (v := x2.toInt64) hx hb d_N_behind_26 rfl ?_
            refine lv_lmul hx hb d_N_behind_27 ?_
            obtain ⟨h8, h9⟩ := qs_ret hF
            exact W.lret (v := (8 : Int64) * (x2.toInt64)) hx hb hr (fun t ht hW => ⟨⟨((8 : Int64) * (x2.toInt64)), g, rfl, ⟨h8, h9⟩, by rw [ht]; exact hP, va_K.moved hW.alike hK, hD⟩, hS.F ht⟩) hS.2.2 d_N_behind_28
  have hl := lv_entry ([.ref (h 0), .int a1] : List Value) (n := 3) (Nat.le_of_ble_eq_true rfl)
  rw [lg_entry_eq]
  generalize (lg_sl ([.ref (h 0), .int a1] : List Value) ++ List.replicate (3 - (lg_sl ([.ref (h 0), .int a1] : List Value)).length) Slot.unset).toArray = ls at hl ⊢
  have hl : lv_has ls 3 [(0, .ref (h 0)), (1, .int (a1))] := hl
  unfold f_N_behind at hF
  obtain ⟨H, hHe⟩ : ∃ H, H = s.heap := ⟨_, rfl⟩
  obtain ⟨locs, hLe⟩ : ∃ L : List Loc, L = [] := ⟨_, rfl⟩
  rw [← hHe] at hP ⊢
  rw [← hLe]
  have hS : va_S A s.heap H locs := by rw [hHe, hLe]; exact hS
  refine lv_iconst (v := 0) hx hb d_N_behind_0 (by decide) ?_
  refine lv_istore_n (lv' := [(2, .int (0)), (0, .ref (h 0)), (1, .int (a1))]) hx hb d_N_behind_1 rfl hl (by decide) rfl (fun ls hl => ?_)
  exact kb_2 200 g (a1) (0) H locs ls hP hD hS (lv_sub hl [1, 2, 0] rfl) hF

theorem d_N_given_0 : decode b_N_given 0 = .ok (.iload_n 1, 1) := by decide +kernel
theorem d_N_given_1 : decode b_N_given 1 = .ok (.ifCond .le 19, 3) := by decide +kernel
theorem d_N_given_4 : decode b_N_given 4 = .ok (.iload_n 1, 1) := by decide +kernel
theorem d_N_given_5 : decode b_N_given 5 = .ok (.bipush 6, 2) := by decide +kernel
theorem d_N_given_7 : decode b_N_given 7 = .ok (.if_icmp .ge 13, 3) := by decide +kernel
theorem d_N_given_10 : decode b_N_given 10 = .ok (.aload_n 0, 1) := by decide +kernel
theorem d_N_given_11 : decode b_N_given 11 = .ok (.getfield 42, 3) := by decide +kernel
theorem d_N_given_14 : decode b_N_given 14 = .ok (.iload 4, 2) := by decide +kernel
theorem d_N_given_16 : decode b_N_given 16 = .ok (.laload, 1) := by decide +kernel
theorem d_N_given_17 : decode b_N_given 17 = .ok (.goto 4, 3) := by decide +kernel
theorem d_N_given_20 : decode b_N_given 20 = .ok (.lconst 0, 1) := by decide +kernel
theorem d_N_given_21 : decode b_N_given 21 = .ok (.lstore 5, 2) := by decide +kernel
theorem d_N_given_23 : decode b_N_given 23 = .ok (.lload_n 2, 1) := by decide +kernel
theorem d_N_given_24 : decode b_N_given 24 = .ok (.invokestatic 113, 3) := by decide +kernel
theorem d_N_given_27 : decode b_N_given 27 = .ok (.istore 7, 2) := by decide +kernel
theorem d_N_given_29 : decode b_N_given 29 = .ok (.iload_n 1, 1) := by decide +kernel
theorem d_N_given_30 : decode b_N_given 30 = .ok (.tableswitch 184 0 14 #[74, 78, 86, 94, 108, 123, 138, 140, 184, 184, 184, 184, 167, 184, 177], 74) := by decide +kernel
theorem d_N_given_104 : decode b_N_given 104 = .ok (.iload 4, 2) := by decide +kernel
theorem d_N_given_106 : decode b_N_given 106 = .ok (.i2l, 1) := by decide +kernel
theorem d_N_given_107 : decode b_N_given 107 = .ok (.lreturn, 1) := by decide +kernel
theorem d_N_given_108 : decode b_N_given 108 = .ok (.lload_n 2, 1) := by decide +kernel
theorem d_N_given_109 : decode b_N_given 109 = .ok (.lload 5, 2) := by decide +kernel
theorem d_N_given_111 : decode b_N_given 111 = .ok (.ladd, 1) := by decide +kernel
theorem d_N_given_112 : decode b_N_given 112 = .ok (.invokestatic 117, 3) := by decide +kernel
theorem d_N_given_115 : decode b_N_given 115 = .ok (.lreturn, 1) := by decide +kernel
theorem d_N_given_116 : decode b_N_given 116 = .ok (.lload_n 2, 1) := by decide +kernel
theorem d_N_given_117 : decode b_N_given 117 = .ok (.lload 5, 2) := by decide +kernel
theorem d_N_given_119 : decode b_N_given 119 = .ok (.lsub, 1) := by decide +kernel
theorem d_N_given_120 : decode b_N_given 120 = .ok (.invokestatic 117, 3) := by decide +kernel
theorem d_N_given_123 : decode b_N_given 123 = .ok (.lreturn, 1) := by decide +kernel
theorem d_N_given_124 : decode b_N_given 124 = .ok (.lload_n 2, 1) := by decide +kernel
theorem d_N_given_125 : decode b_N_given 125 = .ok (.lload 5, 2) := by decide +kernel
theorem d_N_given_127 : decode b_N_given 127 = .ok (.lmul, 1) := by decide +kernel
theorem d_N_given_128 : decode b_N_given 128 = .ok (.ldc2_w 59, 3) := by decide +kernel
theorem d_N_given_131 : decode b_N_given 131 = .ok (.invokestatic 61, 3) := by decide +kernel
theorem d_N_given_134 : decode b_N_given 134 = .ok (.invokestatic 117, 3) := by decide +kernel
theorem d_N_given_137 : decode b_N_given 137 = .ok (.lreturn, 1) := by decide +kernel
theorem d_N_given_138 : decode b_N_given 138 = .ok (.lload_n 2, 1) := by decide +kernel
theorem d_N_given_139 : decode b_N_given 139 = .ok (.lload 5, 2) := by decide +kernel
theorem d_N_given_141 : decode b_N_given 141 = .ok (.lcmp, 1) := by decide +kernel
theorem d_N_given_142 : decode b_N_given 142 = .ok (.ifCond .ge 9, 3) := by decide +kernel
theorem d_N_given_145 : decode b_N_given 145 = .ok (.ldc2_w 59, 3) := by decide +kernel
theorem d_N_given_148 : decode b_N_given 148 = .ok (.goto 4, 3) := by decide +kernel
theorem d_N_given_151 : decode b_N_given 151 = .ok (.lconst 0, 1) := by decide +kernel
theorem d_N_given_152 : decode b_N_given 152 = .ok (.lreturn, 1) := by decide +kernel
theorem d_N_given_153 : decode b_N_given 153 = .ok (.lload_n 2, 1) := by decide +kernel
theorem d_N_given_154 : decode b_N_given 154 = .ok (.lload 5, 2) := by decide +kernel
theorem d_N_given_156 : decode b_N_given 156 = .ok (.lcmp, 1) := by decide +kernel
theorem d_N_given_157 : decode b_N_given 157 = .ok (.ifCond .ne 9, 3) := by decide +kernel
theorem d_N_given_160 : decode b_N_given 160 = .ok (.ldc2_w 59, 3) := by decide +kernel
theorem d_N_given_163 : decode b_N_given 163 = .ok (.goto 4, 3) := by decide +kernel
theorem d_N_given_166 : decode b_N_given 166 = .ok (.lconst 0, 1) := by decide +kernel
theorem d_N_given_167 : decode b_N_given 167 = .ok (.lreturn, 1) := by decide +kernel
theorem d_N_given_168 : decode b_N_given 168 = .ok (.lload_n 2, 1) := by decide +kernel
theorem d_N_given_169 : decode b_N_given 169 = .ok (.lreturn, 1) := by decide +kernel
theorem d_N_given_170 : decode b_N_given 170 = .ok (.aload_n 0, 1) := by decide +kernel
theorem d_N_given_171 : decode b_N_given 171 = .ok (.iload 7, 2) := by decide +kernel
theorem d_N_given_173 : decode b_N_given 173 = .ok (.invokevirtual 98, 3) := by decide +kernel
theorem d_N_given_176 : decode b_N_given 176 = .ok (.ifCond .eq 7, 3) := by decide +kernel
theorem d_N_given_179 : decode b_N_given 179 = .ok (.lconst 0, 1) := by decide +kernel
theorem d_N_given_180 : decode b_N_given 180 = .ok (.goto 16, 3) := by decide +kernel
theorem d_N_given_183 : decode b_N_given 183 = .ok (.aload_n 0, 1) := by decide +kernel
theorem d_N_given_184 : decode b_N_given 184 = .ok (.getfield 7, 3) := by decide +kernel
theorem d_N_given_187 : decode b_N_given 187 = .ok (.bipush 16, 2) := by decide +kernel
theorem d_N_given_189 : decode b_N_given 189 = .ok (.iload 7, 2) := by decide +kernel
theorem d_N_given_191 : decode b_N_given 191 = .ok (.imul, 1) := by decide +kernel
theorem d_N_given_192 : decode b_N_given 192 = .ok (.iload 4, 2) := by decide +kernel
theorem d_N_given_194 : decode b_N_given 194 = .ok (.iadd, 1) := by decide +kernel
theorem d_N_given_195 : decode b_N_given 195 = .ok (.laload, 1) := by decide +kernel
theorem d_N_given_196 : decode b_N_given 196 = .ok (.lreturn, 1) := by decide +kernel
theorem d_N_given_197 : decode b_N_given 197 = .ok (.ldc2_w 59, 3) := by decide +kernel
theorem d_N_given_200 : decode b_N_given 200 = .ok (.aload_n 0, 1) := by decide +kernel
theorem d_N_given_201 : decode b_N_given 201 = .ok (.invokevirtual 90, 3) := by decide +kernel
theorem d_N_given_204 : decode b_N_given 204 = .ok (.i2l, 1) := by decide +kernel
theorem d_N_given_205 : decode b_N_given 205 = .ok (.lmul, 1) := by decide +kernel
theorem d_N_given_206 : decode b_N_given 206 = .ok (.lreturn, 1) := by decide +kernel
theorem d_N_given_207 : decode b_N_given 207 = .ok (.aload_n 0, 1) := by decide +kernel
theorem d_N_given_208 : decode b_N_given 208 = .ok (.iload 7, 2) := by decide +kernel
theorem d_N_given_210 : decode b_N_given 210 = .ok (.invokevirtual 121, 3) := by decide +kernel
theorem d_N_given_213 : decode b_N_given 213 = .ok (.lreturn, 1) := by decide +kernel
theorem d_N_given_214 : decode b_N_given 214 = .ok (.aload_n 0, 1) := by decide +kernel
theorem d_N_given_215 : decode b_N_given 215 = .ok (.invokevirtual 125, 3) := by decide +kernel
theorem d_N_given_218 : decode b_N_given 218 = .ok (.lreturn, 1) := by decide +kernel
def f_N_given_21  (g : Sm) (x1 : Int32) (x2 : Int64) (x4 : Int32) (y0 : Int64) : Option (Int64 × Sm) := (qs_pb (f_N_whole (x2)) fun r4 => (if x1 = 0 then (some (x4.toInt64, g)) else (if x1 = 1 then (qs_pb (f_N_clamp (x2 + y0)) fun r7 => (some (r7, g))) else (if x1 = 2 then (qs_pb (f_N_clamp (x2 - y0)) fun r9 => (some (r9, g))) else (if x1 = 3 then (qs_pb (f_N_down (x2 * y0) ((8 : Int64))) fun r11 => (qs_pb (f_N_clamp (r11)) fun r12 => (some (r12, g)))) else (if x1 = 4 then (if 0 ≤ (lg_cmp x2 y0) then (some ((0 : Int64), g)) else (some ((8 : Int64), g))) else (if x1 = 5 then (if (lg_cmp x2 y0) = 0 then (some ((8 : Int64), g)) else (some ((0 : Int64), g))) else (if x1 = 6 then (some (x2, g)) else (if x1 = 7 then (qs_bn (f_N_gone g (r4)) fun r19 u20 => (if r19 = 0 then (qs_in ((16 * r4) + x4) 192 (some (u20.2 1 ((16 * r4) + x4).toNatClampNeg, u20))) else (some ((0 : Int64), u20)))) else (if x1 = 8 then (qs_bn (f_N_drawn g ) fun r24 u25 => (some (r24, u25))) else (if x1 = 9 then (qs_bn (f_N_drawn g ) fun r27 u28 => (some (r27, u28))) else (if x1 = 10 then (qs_bn (f_N_drawn g ) fun r30 u31 => (some (r30, u31))) else (if x1 = 11 then (qs_bn (f_N_drawn g ) fun r33 u34 => (some (r33, u34))) else (if x1 = 12 then (qs_bn (f_N_create g ) fun r36 u37 => (some ((8 : Int64) * (r36.toInt64), u37))) else (if x1 = 13 then (qs_bn (f_N_drawn g ) fun r39 u40 => (some (r39, u40))) else (if x1 = 14 then (qs_bn (f_N_behind g (r4)) fun r42 u43 => (some (r42, u43))) else (qs_bn (f_N_drawn g ) fun r44 u45 => (some (r44, u45)))))))))))))))))))
def f_N_given_20  (g : Sm) (x1 : Int32) (x2 : Int64) (x4 : Int32) : Option (Int64 × Sm) := (f_N_given_21 g (x1) (x2) (x4) ((0 : Int64)))
def f_N_given (g : Sm) (a1 : Int32) (a2 : Int64) (a3 : Int32) : Option (Int64 × Sm) := (if a1 ≤ 0 then (f_N_given_20 g (a1) (a2) (a3)) else (if 6 ≤ a1 then (f_N_given_20 g (a1) (a2) (a3)) else (qs_in (a3) 24 (f_N_given_21 g (a1) (a2) (a3) (g.2 11 a3.toNatClampNeg)))))
set_option maxHeartbeats 4000000 in
set_option maxRecDepth 100000 in
theorem c_N_given (l : Launch) (dC : Nat → ClassId) (dI : Nat → Nat → Nat) (h : Nat → Nat) (c : Nat → ClassId) (sz : Nat) (g : Sm) (a1 : Int32) (a2 : Int64) (a3 : Int32) (r0 : Int64) (u0 : Sm) (hF : f_N_given g a1 a2 a3 = some (r0, u0)) : Met l y_N_given (qs_ws y_N_given b_N_given 8 (some .long)) ({ frames := 2, cells := 0, slots := 0, locals := 44 } : Room) (va_Pc ([.ref (h 0), .int a1, .long a2, .int a3] : List Value) (fun U => U.heap.size = sz ∧ va_P (dC, dI) vwCl (ms_W h c g) U.heap ∧ va_K (dC, dI) vwCl (ms_T c) U ∧ va_D (fun _ => True) (ms_W h c g) ∧ qs_N U)) (va_Ql (fun (r : Int64) (u : Sm) => r = r0 ∧ u = u0) (ms_at dC dI h c (va_A (ms_W h c g) sz)) (va_A (ms_W h c g) sz)) 0 0 (va_A (ms_W h c g) sz) := by
  refine Met.ofW (cc := b_N_given) (maxL := 8) (ret := (some .long)) (by decide +kernel) rfl ?_
  intro p e s m args below meth cd s₁ B hml hv
  obtain ⟨rfl, hsz, hP, hK, hD0, hNs⟩ := hv
  have hx := B.exec
  have hb := B.bytes
  have hr := B.returns
  have hts := atoms_spec (ws := (qs_ws y_N_given b_N_given 8 (some .long))) B.pre
  have hg : ∀ w ∈ qs_gt, w.before _ s = true := fun w h => hts w (List.mem_cons_of_mem _ h)
  have hown : s.vm.findClass R_N = some m.cls := findClass_of_methodNamed B.named
  have hlocks := B.notSynchronized
  subst hsz
  have hD := hD0.self (sz := s.heap.size)
  generalize hAe : va_A (ms_W h c g) s.heap.size = A at hD ⊢
  have hA : ∀ q : Nat, s.heap.size ≤ q → A q := fun q h => by rw [← hAe]; exact Or.inr h
  have hS : va_S A s.heap s.heap [] := va_S.rf
  have kb_21 : ∀ (g : Sm) (x1 : Int32) (x2 : Int64) (x4 : Int32) (y0 : Int64) (H : Heap) (locs : List Loc) (ls : Array Slot), va_P (dC, dI) vwCl (ms_W h c g) H → va_D A (ms_W h c g) → va_S A s.heap H locs → lv_has ls 8 [(0, .ref (h 0)), (1, .int (x1)), (2, .long (x2)), (4, .int (x4))] → f_N_given_21  g x1 x2 x4 y0 = some (r0, u0) → W p l e (headSpec (qs_ws y_N_given b_N_given 8 (some .long)) ({ frames := 2, cells := 0, slots := 0, locals := 44 } : Room)).room s m ([.ref (h 0), .int a1, .long a2, .int a3] : List Value).toArray below meth cd H locs 0 0 (MQ below (va_Ql (fun (r : Int64) (u : Sm) => r = r0 ∧ u = u0) (ms_at dC dI h c A) A) ([.ref (h 0), .int a1, .long a2, .int a3] : List Value).toArray s 0 0 A) (F0 m 21 ls [.long (y0)]) := by
    intro g x1 x2 x4 y0 H locs ls hP hD hS hl hF
    unfold f_N_given_21 at hF
    refine lv_lstore (lv' := [(5, .long (y0)), (0, .ref (h 0)), (1, .int (x1)), (2, .long (x2)), (4, .int (x4))]) hx hb d_N_given_21 hl (by decide) rfl (fun ls hl => ?_)
    refine lv_lload_n hx hb d_N_given_23 rfl (lv_at hl 3 rfl) ?_
    obtain ⟨r4, hX, hF⟩ := qs_pb_some hF
    refine qs_psi (va_runS (own := "QuakeServerModel") (As := [.long (x2)]) (rest := []) ⟨hx, hb, hml, hown, hg⟩ (c_N_whole l H.size (x2) r4 hX) (va_cwS 1 hg (qs_gS t_773 t_774 t_8 t_775) rfl rfl rfl (by decide +kernel) ⟨Nat.le_of_ble_eq_true rfl, Nat.le_of_ble_eq_true rfl⟩) ⟨qs_blind0, fun U hU hW => ⟨rfl, by rw [hU], hNs.warm hW⟩⟩ rfl rfl hl.1 rfl (lv_room (Nat.le_of_ble_eq_true rfl)) d_N_given_24 ⟨Nat.le_of_ble_eq_true rfl, Nat.le_of_ble_eq_true rfl⟩) hP hD hS hA (fun H locs hP hS => ?_)
    refine lv_istore (lv' := [(7, .int (r4)), (5, .long (y0)), (0, .ref (h 0)), (1, .int (x1)), (2, .long (x2)), (4, .int (x4))]) hx hb d_N_given_27 hl (by decide) rfl (fun ls hl => ?_)
    refine lv_iload_n hx hb d_N_given_29 rfl (lv_at hl 3 rfl) ?_
    by_cases c5 : x1 = 0
    · have hF := qs_pos c5 hF
      refine lv_tableIn (tgt := 104) hx hb d_N_given_30 (by rw [c5]; decide) (by rw [c5]; decide) (by rw [c5]; rfl) (by decide) ?_
      refine lv_iload hx hb d_N_given_104 (lv_at hl 5 rfl) ?_
      refine lv_i2l (v := x4.toInt64) hx hb d_N_given_106 rfl ?_
      obtain ⟨h8, h9⟩ := qs_ret hF
      exact W.lret (v := x4.toInt64) hx hb hr (fun t ht hW => ⟨⟨(x4.toInt64), g, rfl, ⟨h8, h9⟩, by rw [ht]; exact hP, va_K.moved hW.alike hK, hD⟩, hS.F ht⟩) hS.2.2 d_N_given_107
    have hF := qs_neg c5 hF
    by_cases c6 : x1 = 1
    · have hF := qs_pos c6 hF
      refine lv_tableIn (tgt := 108) hx hb d_N_given_30 (by rw [c6]; decide) (by rw [c6]; decide) (by rw [c6]; rfl) (by decide) ?_
      refine lv_lload_n hx hb d_N_given_108 rfl (lv_at hl 4 rfl) ?_
      refine lv_lload hx hb d_N_given_109 (lv_at hl 1 rfl) ?_
      refine lv_ladd hx hb d_N_given_111 ?_
      obtain ⟨r7, hX, hF⟩ := qs_pb_some hF
      refine qs_psl (va_runS (own := "QuakeServerModel") (As := [.long (x2 + y0)]) (rest := []) ⟨hx, hb, hml, hown, hg⟩ (c_N_clamp l H.size (x2 + y0) r7 hX) (va_cwS 1 hg (qs_gS t_783 t_784 t_8 t_785) rfl rfl rfl (by decide +kernel) ⟨Nat.le_of_ble_eq_true rfl, Nat.le_of_ble_eq_true rfl⟩) ⟨qs_blind0, fun U hU hW => ⟨rfl, by rw [hU], hNs.warm hW⟩⟩ rfl rfl hl.1 rfl (lv_room (Nat.le_of_ble_eq_true rfl)) d_N_given_112 ⟨Nat.le_of_ble_eq_true rfl, Nat.le_of_ble_eq_true rfl⟩) hP hD hS hA (fun H locs hP hS => ?_)
      obtain ⟨h8, h9⟩ := qs_ret hF
      exact W.lret (v := r7) hx hb hr (fun t ht hW => ⟨⟨r7, g, rfl, ⟨h8, h9⟩, by rw [ht]; exact hP, va_K.moved hW.alike hK, hD⟩, hS.F ht⟩) hS.2.2 d_N_given_115
    have hF := qs_neg c6 hF
    by_cases c8 : x1 = 2
    · have hF := qs_pos c8 hF
      refine lv_tableIn (tgt := 116) hx hb d_N_given_30 (by rw [c8]; decide) (by rw [c8]; decide) (by rw [c8]; rfl) (by decide) ?_
      refine lv_lload_n hx hb d_N_given_116 rfl (lv_at hl 4 rfl) ?_
      refine lv_lload hx hb d_N_given_117 (lv_at hl 1 rfl) ?_
      refine lv_lsub hx hb d_N_given_119 ?_
      obtain ⟨r9, hX, hF⟩ := qs_pb_some hF
      refine qs_psl (va_runS (own := "QuakeServerModel") (As := [.long (x2 - y0)]) (rest := []) ⟨hx, hb, hml, hown, hg⟩ (c_N_clamp l H.size (x2 - y0) r9 hX) (va_cwS 1 hg (qs_gS t_783 t_784 t_8 t_785) rfl rfl rfl (by decide +kernel) ⟨Nat.le_of_ble_eq_true rfl, Nat.le_of_ble_eq_true rfl⟩) ⟨qs_blind0, fun U hU hW => ⟨rfl, by rw [hU], hNs.warm hW⟩⟩ rfl rfl hl.1 rfl (lv_room (Nat.le_of_ble_eq_true rfl)) d_N_given_120 ⟨Nat.le_of_ble_eq_true rfl, Nat.le_of_ble_eq_true rfl⟩) hP hD hS hA (fun H locs hP hS => ?_)
      obtain ⟨h8, h9⟩ := qs_ret hF
      exact W.lret (v := r9) hx hb hr (fun t ht hW => ⟨⟨r9, g, rfl, ⟨h8, h9⟩, by rw [ht]; exact hP, va_K.moved hW.alike hK, hD⟩, hS.F ht⟩) hS.2.2 d_N_given_123
    have hF := qs_neg c8 hF
    by_cases c10 : x1 = 3
    · have hF := qs_pos c10 hF
      refine lv_tableIn (tgt := 124) hx hb d_N_given_30 (by rw [c10]; decide) (by rw [c10]; decide) (by rw [c10]; rfl) (by decide) ?_
      refine lv_lload_n hx hb d_N_given_124 rfl (lv_at hl 4 rfl) ?_
      refine lv_lload hx hb d_N_given_125 (lv_at hl 1 rfl) ?_
      refine lv_lmul hx hb d_N_given_127 ?_
      refine lv_ldc2 (v := 8) hx hb hown (hg _ t_701) d_N_given_128 ?_
      obtain ⟨r11, hX, hF⟩ := qs_pb_some hF
      refine qs_psl (va_runS (own := "QuakeServerModel") (As := [.long (x2 * y0), .long ((8 : Int64))]) (rest := []) ⟨hx, hb, hml, hown, hg⟩ (c_N_down l H.size (x2 * y0) ((8 : Int64)) r11 hX) (va_cwS 2 hg (qs_gS t_776 t_777 t_8 t_778) rfl rfl rfl (by decide +kernel) ⟨Nat.le_of_ble_eq_true rfl, Nat.le_of_ble_eq_true rfl⟩) ⟨qs_blind0, fun U hU hW => ⟨rfl, by rw [hU], hNs.warm hW⟩⟩ rfl rfl hl.1 rfl (lv_room (Nat.le_of_ble_eq_true rfl)) d_N_given_131 ⟨Nat.le_of_ble_eq_true rfl, Nat.le_of_ble_eq_true rfl⟩) hP hD hS hA (fun H locs hP hS => ?_)
      obtain ⟨r12, hX, hF⟩ := qs_pb_some hF
      refine qs_psl (va_runS (own := "QuakeServerModel") (As := [.long (r11)]) (rest := []) ⟨hx, hb, hml, hown, hg⟩ (c_N_clamp l H.size (r11) r12 hX) (va_cwS 1 hg (qs_gS t_783 t_784 t_8 t_785) rfl rfl rfl (by decide +kernel) ⟨Nat.le_of_ble_eq_true rfl, Nat.le_of_ble_eq_true rfl⟩) ⟨qs_blind0, fun U hU hW => ⟨rfl, by rw [hU], hNs.warm hW⟩⟩ rfl rfl hl.1 rfl (lv_room (Nat.le_of_ble_eq_true rfl)) d_N_given_134 ⟨Nat.le_of_ble_eq_true rfl, Nat.le_of_ble_eq_true rfl⟩) hP hD hS hA (fun H locs hP hS => ?_)
      obtain ⟨h8, h9⟩ := qs_ret hF
      exact W.lret (v := r12) hx hb hr (fun t ht hW => ⟨⟨r12, g, rfl, ⟨h8, h9⟩, by rw [ht]; exact hP, va_K.moved hW.alike hK, hD⟩, hS.F ht⟩) hS.2.2 d_N_given_137
    have hF := qs_neg c10 hF
    by_cases c13 : x1 = 4
    · have hF := qs_pos c13 hF
      refine lv_tableIn (tgt := 138) hx hb d_N_given_30 (by rw [c13]; decide) (by rw [c13]; decide) (by rw [c13]; rfl) (by decide) ?_
      refine lv_lload_n hx hb d_N_given_138 rfl (lv_at hl 4 rfl) ?_
      refine lv_lload hx hb d_N_given_139 (lv_at hl 1 rfl) ?_
      refine W.lcmp hx hb d_N_given_141 ?_
      refine lv_if_ge (tgt := 151) hx hb d_N_given_142 (by decide) (fun c14 => ?_) (fun c14 => ?_)
      · have hF := qs_pos c14 hF
        refine lv_lconst (v := 0) hx hb d_N_given_151 (by decide) ?_
        obtain ⟨h8, h9⟩ := qs_ret hF
        exact W.lret (v := (0 : Int64)) hx hb hr (fun t ht hW => ⟨⟨(0 : Int64), g, rfl, ⟨h8, h9⟩, by rw [ht]; exact hP, va_K.moved hW.alike hK, hD⟩, hS.F ht⟩) hS.2.2 d_N_given_152
      · have hF := qs_neg c14 hF
        refine lv_ldc2 (v := 8) hx hb hown (hg _ t_701) d_N_given_145 ?_
        refine lv_goto (tgt := 152) hx hb d_N_given_148 (by decide) ?_
        obtain ⟨h8, h9⟩ := qs_ret hF
        exact W.lret (v := (8 : Int64)) hx hb hr (fun t ht hW => ⟨⟨(8 : Int64), g, rfl, ⟨h8, h9⟩, by rw [ht]; exact hP, va_K.moved hW.alike hK, hD⟩, hS.F ht⟩) hS.2.2 d_N_given_152
    have hF := qs_neg c13 hF
    by_cases c15 : x1 = 5
    · have hF := qs_pos c15 hF
      refine lv_tableIn (tgt := 153) hx hb d_N_given_30 (by rw [c15]; decide) (by rw [c15]; decide) (by rw [c15]; rfl) (by decide) ?_
      refine lv_lload_n hx hb d_N_given_153 rfl (lv_at hl 4 rfl) ?_
      refine lv_lload hx hb d_N_given_154 (lv_at hl 1 rfl) ?_
      refine W.lcmp hx hb d_N_given_156 ?_
      refine lv_if_ne (tgt := 166) hx hb d_N_given_157 (by decide) (fun c16 => ?_) (fun c16 => ?_)
      · have hF := qs_neg c16 hF
        refine lv_lconst (v := 0) hx hb d_N_given_166 (by decide) ?_
        obtain ⟨h8, h9⟩ := qs_ret hF
        exact W.lret (v := (0 : Int64)) hx hb hr (fun t ht hW => ⟨⟨(0 : Int64), g, rfl, ⟨h8, h9⟩, by rw [ht]; exact hP, va_K.moved hW.alike hK, hD⟩, hS.F ht⟩) hS.2.2 d_N_given_167
      · have hF := qs_pos c16 hF
        refine lv_ldc2 (v := 8) hx hb hown (hg _ t_701) d_N_given_160 ?_
        refine lv_goto (tgt := 167) hx hb d_N_given_163 (by decide) ?_
        obtain ⟨h8, h9⟩ := qs_ret hF
        exact W.lret (v := (8 : Int64)) hx hb hr (fun t ht hW => ⟨⟨(8 : Int64), g, rfl, ⟨h8, h9⟩, by rw [ht]; exact hP, va_K.moved hW.alike hK, hD⟩, hS.F ht⟩) hS.2.2 d_N_given_167
    have hF := qs_neg c15 hF
    by_cases c17 : x1 = 6
    · have hF := qs_pos c17 hF
      refine lv_tableIn (tgt := 168) hx hb d_N_given_30 (by rw [c17]; decide) (by rw [c17]; decide) (by rw [c17]; rfl) (by decide) ?_
      refine lv_lload_n hx hb d_N_given_168 rfl (lv_at hl 4 rfl) ?_
      obtain ⟨h8, h9⟩ := qs_ret hF
      exact W.lret (v := x2) hx hb hr (fun t ht hW => ⟨⟨x2, g, rfl, ⟨h8, h9⟩, by rw [ht]; exact hP, va_K.moved hW.alike hK, hD⟩, hS.F ht⟩) hS.2.2 d_N_given_169
    have hF := qs_neg c17 hF
    by_cases c18 : x1 = 7
    · have hF := qs_pos c18 hF
      refine lv_tableIn (tgt := 170) hx hb d_N_given_30 (by rw [c18]; decide) (by rw [c18]; decide) (by rw [c18]; rfl) (by decide) ?_
      refine lv_aload_n hx hb d_N_given_170 rfl (lv_at hl 2 rfl) ?_
      refine lv_iload hx hb d_N_given_171 (lv_at hl 0 rfl) ?_
      obtain ⟨r19, u20, hX, hF⟩ := qs_bn_some hF
      refine qs_ci (Wd := ms_W h c) (isC := [0, 1, 2, 3, 4, 5, 6, 7, 8, 9, 10, 11, 12]) (va_runV (own := "QuakeServerModel") (C := "QuakeServerModel") (As := [.int (r4)]) (rest := []) ⟨hx, hb, hml, hown, hg⟩ (c_N_gone l dC dI h c H.size g (r4) r19 u20 hX) (cwV 1 hg (qs_gV t_730 t_732 tp_19 t_8 t_733) rfl rfl rfl (by decide +kernel) ⟨Nat.le_of_ble_eq_true rfl, Nat.le_of_ble_eq_true rfl⟩) ⟨qs_blind, va_recv hK hP (ci := 7) (q0 := 0) rfl rfl, fun U hU hW => ⟨rfl, by rw [hU], by rw [hU]; exact hP, va_K.moved hW.alike hK, hD.weaken (fun _ _ _ _ => trivial), hNs.warm hW⟩⟩ rfl rfl hl.1 rfl (lv_room (Nat.le_of_ble_eq_true rfl)) d_N_given_173 ⟨Nat.le_of_ble_eq_true rfl, Nat.le_of_ble_eq_true rfl⟩) rfl hP hD hS hA (fun H locs hP hD hS => ?_)
      refine lv_if_eq (tgt := 183) hx hb d_N_given_176 (by decide) (fun c21 => ?_) (fun c21 => ?_)
      · have hF := qs_pos c21 hF
        refine lv_aload_n hx hb d_N_given_183 rfl (lv_at hl 2 rfl) ?_
        refine va_get (D := (dC, dI)) (ci := 7) (v := .ref (h 1)) (C := R_N) (T := T_N) (N := 22) hx hb hg in_N hown hK hP 0 rfl rfl 1 (by decide) (hg _ t_619) (fun _ h9 => h9) rfl d_N_given_184 ?_
        refine lv_bipush (v := 16) hx hb d_N_given_187 (by decide) ?_
        refine lv_iload hx hb d_N_given_189 (lv_at hl 0 rfl) ?_
        refine lv_imul hx hb d_N_given_191 ?_
        refine lv_iload hx hb d_N_given_192 (lv_at hl 5 rfl) ?_
        refine lv_iadd hx hb d_N_given_194 ?_
        obtain ⟨c22, hF⟩ := qs_in_some hF
        refine va_lald hx hb hK hP 1 0 rfl rfl c22 d_N_given_195 ?_
        obtain ⟨h8, h9⟩ := qs_ret hF
        exact W.lret (v := u20.2 1 ((16 * r4) + x4).toNatClampNeg) hx hb hr (fun t ht hW => ⟨⟨(u20.2 1 ((16 * r4) + x4).toNatClampNeg), u20, rfl, ⟨h8, h9⟩, by rw [ht]; exact hP, va_K.moved hW.alike hK, hD⟩, hS.F ht⟩) hS.2.2 d_N_given_196
      · have hF := qs_neg c21 hF
        refine lv_lconst (v := 0) hx hb d_N_given_179 (by decide) ?_
        refine lv_goto (tgt := 196) hx hb d_N_given_180 (by decide) ?_
        obtain ⟨h8, h9⟩ := qs_ret hF
        exact W.lret (v := (0 : Int64)) hx hb hr (fun t ht hW => ⟨⟨(0 : Int64), u20, rfl, ⟨h8, h9⟩, by rw [ht]; exact hP, va_K.moved hW.alike hK, hD⟩, hS.F ht⟩) hS.2.2 d_N_given_196
    have hF := qs_neg c18 hF
    by_cases c23 : x1 = 8
    · have hF := qs_pos c23 hF
      refine lv_tableIn (tgt := 214) hx hb d_N_given_30 (by rw [c23]; decide) (by rw [c23]; decide) (by rw [c23]; rfl) (by decide) ?_
      refine lv_aload_n hx hb d_N_given_214 rfl (lv_at hl 2 rfl) ?_
      obtain ⟨r24, u25, hX, hF⟩ := qs_bn_some hF
      refine qs_cl (Wd := ms_W h c) (isC := [0, 1, 2, 3, 4, 5, 6, 7, 8, 9, 10, 11, 12]) (va_runV (own := "QuakeServerModel") (C := "QuakeServerModel") (As := []) (rest := []) ⟨hx, hb, hml, hown, hg⟩ (c_N_drawn l dC dI h c H.size g  r24 u25 hX) (cwV 0 hg (qs_gV t_791 t_793 tp_26 t_8 t_794) rfl rfl rfl (by decide +kernel) ⟨Nat.le_of_ble_eq_true rfl, Nat.le_of_ble_eq_true rfl⟩) ⟨qs_blind, va_recv hK hP (ci := 7) (q0 := 0) rfl rfl, fun U hU hW => ⟨rfl, by rw [hU], by rw [hU]; exact hP, va_K.moved hW.alike hK, hD.weaken (fun _ _ _ _ => trivial), hNs.warm hW⟩⟩ rfl rfl hl.1 rfl (lv_room (Nat.le_of_ble_eq_true rfl)) d_N_given_215 ⟨Nat.le_of_ble_eq_true rfl, Nat.le_of_ble_eq_true rfl⟩) rfl hP hD hS hA (fun H locs hP hD hS => ?_)
      obtain ⟨h8, h9⟩ := qs_ret hF
      exact W.lret (v := r24) hx hb hr (fun t ht hW => ⟨⟨r24, u25, rfl, ⟨h8, h9⟩, by rw [ht]; exact hP, va_K.moved hW.alike hK, hD⟩, hS.F ht⟩) hS.2.2 d_N_given_218
    have hF := qs_neg c23 hF
    by_cases c26 : x1 = 9
    · have hF := qs_pos c26 hF
      refine lv_tableIn (tgt := 214) hx hb d_N_given_30 (by rw [c26]; decide) (by rw [c26]; decide) (by rw [c26]; rfl) (by decide) ?_
      refine lv_aload_n hx hb d_N_given_214 rfl (lv_at hl 2 rfl) ?_
      obtain ⟨r27, u28, hX, hF⟩ := qs_bn_some hF
      refine qs_cl (Wd := ms_W h c) (isC := [0, 1, 2, 3, 4, 5, 6, 7, 8, 9, 10, 11, 12]) (va_runV (own := "QuakeServerModel") (C := "QuakeServerModel") (As := []) (rest := []) ⟨hx, hb, hml, hown, hg⟩ (c_N_drawn l dC dI h c H.size g  r27 u28 hX) (cwV 0 hg (qs_gV t_791 t_793 tp_26 t_8 t_794) rfl rfl rfl (by decide +kernel) ⟨Nat.le_of_ble_eq_true rfl, Nat.le_of_ble_eq_true rfl⟩) ⟨qs_blind, va_recv hK hP (ci := 7) (q0 := 0) rfl rfl, fun U hU hW => ⟨rfl, by rw [hU], by rw [hU]; exact hP, va_K.moved hW.alike hK, hD.weaken (fun _ _ _ _ => trivial), hNs.warm hW⟩⟩ rfl rfl hl.1 rfl (lv_room (Nat.le_of_ble_eq_true rfl)) d_N_given_215 ⟨Nat.le_of_ble_eq_true rfl, Nat.le_of_ble_eq_true rfl⟩) rfl hP hD hS hA (fun H locs hP hD hS => ?_)
      obtain ⟨h8, h9⟩ := qs_ret hF
      exact W.lret (v := r27) hx hb hr (fun t ht hW => ⟨⟨r27, u28, rfl, ⟨h8, h9⟩, by rw [ht]; exact hP, va_K.moved hW.alike hK, hD⟩, hS.F ht⟩) hS.2.2 d_N_given_218
    have hF := qs_neg c26 hF
    by_cases c29 : x1 = 10
    · have hF := qs_pos c29 hF
      refine lv_tableIn (tgt := 214) hx hb d_N_given_30 (by rw [c29]; decide) (by rw [c29]; decide) (by rw [c29]; rfl) (by decide) ?_
      refine lv_aload_n hx hb d_N_given_214 rfl (lv_at hl 2 rfl) ?_
      obtain ⟨r30, u31, hX, hF⟩ := qs_bn_some hF
      refine qs_cl (Wd := ms_W h c) (isC := [0, 1, 2, 3, 4, 5, 6, 7, 8, 9, 10, 11, 12]) (va_runV (own := "QuakeServerModel") (C := "QuakeServerModel") (As := []) (rest := []) ⟨hx, hb, hml, hown, hg⟩ (c_N_drawn l dC dI h c H.size g  r30 u31 hX) (cwV 0 hg (qs_gV t_791 t_793 tp_26 t_8 t_794) rfl rfl rfl (by decide +kernel) ⟨Nat.le_of_ble_eq_true rfl, Nat.le_of_ble_eq_true rfl⟩) ⟨qs_blind, va_recv hK hP (ci := 7) (q0 := 0) rfl rfl, fun U hU hW => ⟨rfl, by rw [hU], by rw [hU]; exact hP, va_K.moved hW.alike hK, hD.weaken (fun _ _ _ _ => trivial), hNs.warm hW⟩⟩ rfl rfl hl.1 rfl (lv_room (Nat.le_of_ble_eq_true rfl)) d_N_given_215 ⟨Nat.le_of_ble_eq_true rfl, Nat.le_of_ble_eq_true rfl⟩) rfl hP hD hS hA (fun H locs hP hD hS => ?_)
      obtain ⟨h8, h9⟩ := qs_ret hF
      exact W.lret (v := r30) hx hb hr (fun t ht hW => ⟨⟨r30, u31, rfl, ⟨h8, h9⟩, by rw [ht]; exact hP, va_K.moved hW.alike hK, hD⟩, hS.F ht⟩) hS.2.2 d_N_given_218
    have hF := qs_neg c29 hF
    by_cases c32 : x1 = 11
    · have hF := qs_pos c32 hF
      refine lv_tableIn (tgt := 214) hx hb d_N_given_30 (by rw [c32]; decide) (by rw [c32]; decide) (by rw [c32]; rfl) (by decide) ?_
      refine lv_aload_n hx hb d_N_given_214 rfl (lv_at hl 2 rfl) ?_
      obtain ⟨r33, u34, hX, hF⟩ := qs_bn_some hF
      refine qs_cl (Wd := ms_W h c) (isC := [0, 1, 2, 3, 4, 5, 6, 7, 8, 9, 10, 11, 12]) (va_runV (own := "QuakeServerModel") (C := "QuakeServerModel") (As := []) (rest := []) ⟨hx, hb, hml, hown, hg⟩ (c_N_drawn l dC dI h c H.size g  r33 u34 hX) (cwV 0 hg (qs_gV t_791 t_793 tp_26 t_8 t_794) rfl rfl rfl (by decide +kernel) ⟨Nat.le_of_ble_eq_true rfl, Nat.le_of_ble_eq_true rfl⟩) ⟨qs_blind, va_recv hK hP (ci := 7) (q0 := 0) rfl rfl, fun U hU hW => ⟨rfl, by rw [hU], by rw [hU]; exact hP, va_K.moved hW.alike hK, hD.weaken (fun _ _ _ _ => trivial), hNs.warm hW⟩⟩ rfl rfl hl.1 rfl (lv_room (Nat.le_of_ble_eq_true rfl)) d_N_given_215 ⟨Nat.le_of_ble_eq_true rfl, Nat.le_of_ble_eq_true rfl⟩) rfl hP hD hS hA (fun H locs hP hD hS => ?_)
      obtain ⟨h8, h9⟩ := qs_ret hF
      exact W.lret (v := r33) hx hb hr (fun t ht hW => ⟨⟨r33, u34, rfl, ⟨h8, h9⟩, by rw [ht]; exact hP, va_K.moved hW.alike hK, hD⟩, hS.F ht⟩) hS.2.2 d_N_given_218
    have hF := qs_neg c32 hF
    by_cases c35 : x1 = 12
    · have hF := qs_pos c35 hF
      refine lv_tableIn (tgt := 197) hx hb d_N_given_30 (by rw [c35]; decide) (by rw [c35]; decide) (by rw [c35]; rfl) (by decide) ?_
      refine lv_ldc2 (v := 8) hx hb hown (hg _ t_701) d_N_given_197 ?_
      refine lv_aload_n hx hb d_N_given_200 rfl (lv_at hl 2 rfl) ?_
      obtain ⟨r36, u37, hX, hF⟩ := qs_bn_some hF
      refine qs_ci (Wd := ms_W h c) (isC := [0, 1, 2, 3, 4, 5, 6, 7, 8, 9, 10, 11, 12]) (va_runV (own := "QuakeServerModel") (C := "QuakeServerModel") (As := []) (rest := [.long ((8 : Int64))]) ⟨hx, hb, hml, hown, hg⟩ (c_N_create l dC dI h c H.size g  r36 u37 hX) (cwV 0 hg (qs_gV t_718 t_720 tp_18 t_8 t_721) rfl rfl rfl (by decide +kernel) ⟨Nat.le_of_ble_eq_true rfl, Nat.le_of_ble_eq_true rfl⟩) ⟨qs_blind, va_recv hK hP (ci := 7) (q0 := 0) rfl rfl, fun U hU hW => ⟨rfl, by rw [hU], by rw [hU]; exact hP, va_K.moved hW.alike hK, hD.weaken (fun _ _ _ _ => trivial), hNs.warm hW⟩⟩ rfl rfl hl.1 rfl (lv_room (Nat.le_of_ble_eq_true rfl)) d_N_given_201 ⟨Nat.le_of_ble_eq_true rfl, Nat.le_of_ble_eq_true rfl⟩) rfl hP hD hS hA (fun H locs hP hD hS => ?_)
      refine lv_i2l (v := r36.toInt64) hx hb d_N_given_204 rfl ?_
      refine lv_lmul hx hb d_N_given_205 ?_
      obtain ⟨h8, h9⟩ := qs_ret hF
      exact W.lret (v := (8 : Int64) * (r36.toInt64)) hx hb hr (fun t ht hW => ⟨⟨((8 : Int64) * (r36.toInt64)), u37, rfl, ⟨h8, h9⟩, by rw [ht]; exact hP, va_K.moved hW.alike hK, hD⟩, hS.F ht⟩) hS.2.2 d_N_given_206
    have hF := qs_neg c35 hF
    by_cases c38 : x1 = 13
    · have hF := qs_pos c38 hF
      refine lv_tableIn (tgt := 214) hx hb d_N_given_30 (by rw [c38]; decide) (by rw [c38]; decide) (by rw [c38]; rfl) (by decide) ?_
      refine lv_aload_n hx hb d_N_given_214 rfl (lv_at hl 2 rfl) ?_
      obtain ⟨r39, u40, hX, hF⟩ := qs_bn_some hF
      refine qs_cl (Wd := ms_W h c) (isC := [0, 1, 2, 3, 4, 5, 6, 7, 8, 9, 10, 11, 12]) (va_runV (own := "QuakeServerModel") (C := "QuakeServerModel") (As := []) (rest := []) ⟨hx, hb, hml, hown, hg⟩ (c_N_drawn l dC dI h c H.size g  r39 u40 hX) (cwV 0 hg (qs_gV t_791 t_793 tp_26 t_8 t_794) rfl rfl rfl (by decide +kernel) ⟨Nat.le_of_ble_eq_true rfl, Nat.le_of_ble_eq_true rfl⟩) ⟨qs_blind, va_recv hK hP (ci := 7) (q0 := 0) rfl rfl, fun U hU hW => ⟨rfl, by rw [hU], by rw [hU]; exact hP, va_K.moved hW.alike hK, hD.weaken (fun _ _ _ _ => trivial), hNs.warm hW⟩⟩ rfl rfl hl.1 rfl (lv_room (Nat.le_of_ble_eq_true rfl)) d_N_given_215 ⟨Nat.le_of_ble_eq_true rfl, Nat.le_of_ble_eq_true rfl⟩) rfl hP hD hS hA (fun H locs hP hD hS => ?_)
      obtain ⟨h8, h9⟩ := qs_ret hF
      exact W.lret (v := r39) hx hb hr (fun t ht hW => ⟨⟨r39, u40, rfl, ⟨h8, h9⟩, by rw [ht]; exact hP, va_K.moved hW.alike hK, hD⟩, hS.F ht⟩) hS.2.2 d_N_given_218
    have hF := qs_neg c38 hF
    by_cases c41 : x1 = 14
    · have hF := qs_pos c41 hF
      refine lv_tableIn (tgt := 207) hx hb d_N_given_30 (by rw [c41]; decide) (by rw [c41]; decide) (by rw [c41]; rfl) (by decide) ?_
      refine lv_aload_n hx hb d_N_given_207 rfl (lv_at hl 2 rfl) ?_
      refine lv_iload hx hb d_N_given_208 (lv_at hl 0 rfl) ?_
      obtain ⟨r42, u43, hX, hF⟩ := qs_bn_some hF
      refine qs_cl (Wd := ms_W h c) (isC := [0, 1, 2, 3, 4, 5, 6, 7, 8, 9, 10, 11, 12]) (va_runV (own := "QuakeServerModel") (C := "QuakeServerModel") (As := [.int (r4)]) (rest := []) ⟨hx, hb, hml, hown, hg⟩ (c_N_behind l dC dI h c H.size g (r4) r42 u43 hX) (cwV 1 hg (qs_gV t_786 t_788 tp_25 t_8 t_789) rfl rfl rfl (by decide +kernel) ⟨Nat.le_of_ble_eq_true rfl, Nat.le_of_ble_eq_true rfl⟩) ⟨qs_blind, va_recv hK hP (ci := 7) (q0 := 0) rfl rfl, fun U hU hW => ⟨rfl, by rw [hU], by rw [hU]; exact hP, va_K.moved hW.alike hK, hD.weaken (fun _ _ _ _ => trivial), hNs.warm hW⟩⟩ rfl rfl hl.1 rfl (lv_room (Nat.le_of_ble_eq_true rfl)) d_N_given_210 ⟨Nat.le_of_ble_eq_true rfl, Nat.le_of_ble_eq_true rfl⟩) rfl hP hD hS hA (fun H locs hP hD hS => ?_)
      obtain ⟨h8, h9⟩ := qs_ret hF
      exact W.lret (v := r42) hx hb hr (fun t ht hW => ⟨⟨r42, u43, rfl, ⟨h8, h9⟩, by rw [ht]; exact hP, va_K.moved hW.alike hK, hD⟩, hS.F ht⟩) hS.2.2 d_N_given_213
    have hF := qs_neg c41 hF
    refine lv_tableOut (tgt := 214) hx hb d_N_given_30 (by have := lv_neT (a := 0) c5 (by decide); have := lv_neT (a := 1) c6 (by decide); have := lv_neT (a := 2) c8 (by decide); have := lv_neT (a := 3) c10 (by decide); have := lv_neT (a := 4) c13 (by decide); have := lv_neT (a := 5) c15 (by decide); have := lv_neT (a := 6) c17 (by decide); have := lv_neT (a := 7) c18 (by decide); have := lv_neT (a := 8) c23 (by decide); have := lv_neT (a := 9) c26 (by decide); have := lv_neT (a := 10) c29 (by decide); have := lv_neT (a := 11) c32 (by decide); have := lv_neT (a := 12) c35 (by decide); have := lv_neT (a := 13) c38 (by decide); have := lv_neT (a := 14) c41 (by decide); omega) (by decide) ?_
    refine lv_aload_n hx hb d_N_given_214 rfl (lv_at hl 2 rfl) ?_
    obtain ⟨r44, u45, hX, hF⟩ := qs_bn_some hF
    refine qs_cl (Wd := ms_W h c) (isC := [0, 1, 2, 3, 4, 5, 6, 7, 8, 9, 10, 11, 12]) (va_runV (own := "QuakeServerModel") (C := "QuakeServerModel") (As := []) (rest := []) ⟨hx, hb, hml, hown, hg⟩ (c_N_drawn l dC dI h c H.size g  r44 u45 hX) (cwV 0 hg (qs_gV t_791 t_793 tp_26 t_8 t_794) rfl rfl rfl (by decide +kernel) ⟨Nat.le_of_ble_eq_true rfl, Nat.le_of_ble_eq_true rfl⟩) ⟨qs_blind, va_recv hK hP (ci := 7) (q0 := 0) rfl rfl, fun U hU hW => ⟨rfl, by rw [hU], by rw [hU]; exact hP, va_K.moved hW.alike hK, hD.weaken (fun _ _ _ _ => trivial), hNs.warm hW⟩⟩ rfl rfl hl.1 rfl (lv_room (Nat.le_of_ble_eq_true rfl)) d_N_given_215 ⟨Nat.le_of_ble_eq_true rfl, Nat.le_of_ble_eq_true rfl⟩) rfl hP hD hS hA (fun H locs hP hD hS => ?_)
    obtain ⟨h8, h9⟩ := qs_ret hF
    exact W.lret (v := r44) hx hb hr (fun t ht hW => ⟨⟨r44, u45, rfl, ⟨h8, h9⟩, by rw [ht]; exact hP, va_K.moved hW.alike hK, hD⟩, hS.F ht⟩) hS.2.2 d_N_given_218
  have kb_20 : ∀ (g : Sm) (x1 : Int32) (x2 : Int64) (x4 : Int32) (H : Heap) (locs : List Loc) (ls : Array Slot), va_P (dC, dI) vwCl (ms_W h c g) H → va_D A (ms_W h c g) → va_S A s.heap H locs → lv_has ls 8 [(0, .ref (h 0)), (1, .int (x1)), (2, .long (x2)), (4, .int (x4))] → f_N_given_20  g x1 x2 x4 = some (r0, u0) → W p l e (headSpec (qs_ws y_N_given b_N_given 8 (some .long)) ({ frames := 2, cells := 0, slots := 0, locals := 44 } : Room)).room s m ([.ref (h 0), .int a1, .long a2, .int a3] : List Value).toArray below meth cd H locs 0 0 (MQ below (va_Ql (fun (r : Int64) (u : Sm) => r = r0 ∧ u = u0) (ms_at dC dI h c A) A) ([.ref (h 0), .int a1, .long a2, .int a3] : List Value).toArray s 0 0 A) (F0 m 20 ls []) := by
    intro g x1 x2 x4 H locs ls hP hD hS hl hF
    unfold f_N_given_20 at hF
    refine lv_lconst (v := 0) hx hb d_N_given_20 (by decide) ?_
    exact kb_21 g (x1) (x2) (x4) ((0 : Int64)) H locs ls hP hD hS (lv_sub hl [0, 1, 2, 3] rfl) hF
  have hl := lv_entry ([.ref (h 0), .int a1, .long a2, .int a3] : List Value) (n := 8) (Nat.le_of_ble_eq_true rfl)
  rw [lg_entry_eq]
  generalize (lg_sl ([.ref (h 0), .int a1, .long a2, .int a3] : List Value) ++ List.replicate (8 - (lg_sl ([.ref (h 0), .int a1, .long a2, .int a3] : List Value)).length) Slot.unset).toArray = ls at hl ⊢
  have hl : lv_has ls 8 [(0, .ref (h 0)), (1, .int (a1)), (2, .long (a2)), (4, .int (a3))] := hl
  unfold f_N_given at hF
  obtain ⟨H, hHe⟩ : ∃ H, H = s.heap := ⟨_, rfl⟩
  obtain ⟨locs, hLe⟩ : ∃ L : List Loc, L = [] := ⟨_, rfl⟩
  rw [← hHe] at hP ⊢
  rw [← hLe]
  have hS : va_S A s.heap H locs := by rw [hHe, hLe]; exact hS
  refine lv_iload_n hx hb d_N_given_0 rfl (lv_at hl 1 rfl) ?_
  refine lv_if_le (tgt := 20) hx hb d_N_given_1 (by decide) (fun c1 => ?_) (fun c1 => ?_)
  · have hF := qs_pos c1 hF
    exact kb_20 g (a1) (a2) (a3) H locs ls hP hD hS (lv_sub hl [0, 1, 2, 3] rfl) hF
  · have hF := qs_neg c1 hF
    refine lv_iload_n hx hb d_N_given_4 rfl (lv_at hl 1 rfl) ?_
    refine lv_bipush (v := 6) hx hb d_N_given_5 (by decide) ?_
    refine lv_icmp_ge (tgt := 20) hx hb d_N_given_7 (by decide) (fun c2 => ?_) (fun c2 => ?_)
    · have hF := qs_pos c2 hF
      exact kb_20 g (a1) (a2) (a3) H locs ls hP hD hS (lv_sub hl [0, 1, 2, 3] rfl) hF
    · have hF := qs_neg c2 hF
      refine lv_aload_n hx hb d_N_given_10 rfl (lv_at hl 0 rfl) ?_
      refine va_get (D := (dC, dI)) (ci := 7) (v := .ref (h 11)) (C := R_N) (T := T_N) (N := 22) hx hb hg in_N hown hK hP 0 rfl rfl 12 (by decide) (hg _ t_630) (fun _ h9 => h9) rfl d_N_given_11 ?_
      refine lv_iload hx hb d_N_given_14 (lv_at hl 3 rfl) ?_
      obtain ⟨c3, hF⟩ := qs_in_some hF
      refine va_lald hx hb hK hP 11 10 rfl rfl c3 d_N_given_16 ?_
      refine lv_goto (tgt := 21) hx hb d_N_given_17 (by decide) ?_
      exact kb_21 g (a1) (a2) (a3) (g.2 11 a3.toNatClampNeg) H locs ls hP hD hS (lv_sub hl [0, 1, 2, 3] rfl) hF

theorem d_N_instruction_0 : decode b_N_instruction 0 = .ok (.aload_n 0, 1) := by decide +kernel
theorem d_N_instruction_1 : decode b_N_instruction 1 = .ok (.getfield 26, 3) := by decide +kernel
theorem d_N_instruction_4 : decode b_N_instruction 4 = .ok (.iload_n 1, 1) := by decide +kernel
theorem d_N_instruction_5 : decode b_N_instruction 5 = .ok (.iaload, 1) := by decide +kernel
theorem d_N_instruction_6 : decode b_N_instruction 6 = .ok (.istore_n 2, 1) := by decide +kernel
theorem d_N_instruction_7 : decode b_N_instruction 7 = .ok (.iload_n 2, 1) := by decide +kernel
theorem d_N_instruction_8 : decode b_N_instruction 8 = .ok (.iconst 1, 1) := by decide +kernel
theorem d_N_instruction_9 : decode b_N_instruction 9 = .ok (.bipush 8, 2) := by decide +kernel
theorem d_N_instruction_11 : decode b_N_instruction 11 = .ok (.invokestatic 65, 3) := by decide +kernel
theorem d_N_instruction_14 : decode b_N_instruction 14 = .ok (.ifCond .ne 15, 3) := by decide +kernel
theorem d_N_instruction_17 : decode b_N_instruction 17 = .ok (.iload_n 2, 1) := by decide +kernel
theorem d_N_instruction_18 : decode b_N_instruction 18 = .ok (.bipush 13, 2) := by decide +kernel
theorem d_N_instruction_20 : decode b_N_instruction 20 = .ok (.if_icmp .eq 9, 3) := by decide +kernel
theorem d_N_instruction_23 : decode b_N_instruction 23 = .ok (.iload_n 2, 1) := by decide +kernel
theorem d_N_instruction_24 : decode b_N_instruction 24 = .ok (.bipush 14, 2) := by decide +kernel
theorem d_N_instruction_26 : decode b_N_instruction 26 = .ok (.if_icmp .ne 17, 3) := by decide +kernel
theorem d_N_instruction_29 : decode b_N_instruction 29 = .ok (.aload_n 0, 1) := by decide +kernel
theorem d_N_instruction_30 : decode b_N_instruction 30 = .ok (.getfield 42, 3) := by decide +kernel
theorem d_N_instruction_33 : decode b_N_instruction 33 = .ok (.aload_n 0, 1) := by decide +kernel
theorem d_N_instruction_34 : decode b_N_instruction 34 = .ok (.getfield 30, 3) := by decide +kernel
theorem d_N_instruction_37 : decode b_N_instruction 37 = .ok (.iload_n 1, 1) := by decide +kernel
theorem d_N_instruction_38 : decode b_N_instruction 38 = .ok (.iaload, 1) := by decide +kernel
theorem d_N_instruction_39 : decode b_N_instruction 39 = .ok (.laload, 1) := by decide +kernel
theorem d_N_instruction_40 : decode b_N_instruction 40 = .ok (.goto 4, 3) := by decide +kernel
theorem d_N_instruction_43 : decode b_N_instruction 43 = .ok (.lconst 0, 1) := by decide +kernel
theorem d_N_instruction_44 : decode b_N_instruction 44 = .ok (.lstore_n 3, 1) := by decide +kernel
theorem d_N_instruction_45 : decode b_N_instruction 45 = .ok (.iload_n 2, 1) := by decide +kernel
theorem d_N_instruction_46 : decode b_N_instruction 46 = .ok (.bipush 8, 2) := by decide +kernel
theorem d_N_instruction_48 : decode b_N_instruction 48 = .ok (.if_icmp .ne 47, 3) := by decide +kernel
theorem d_N_instruction_51 : decode b_N_instruction 51 = .ok (.aload_n 0, 1) := by decide +kernel
theorem d_N_instruction_52 : decode b_N_instruction 52 = .ok (.lload_n 3, 1) := by decide +kernel
theorem d_N_instruction_53 : decode b_N_instruction 53 = .ok (.invokestatic 113, 3) := by decide +kernel
theorem d_N_instruction_56 : decode b_N_instruction 56 = .ok (.invokevirtual 98, 3) := by decide +kernel
theorem d_N_instruction_59 : decode b_N_instruction 59 = .ok (.ifCond .ne 89, 3) := by decide +kernel
theorem d_N_instruction_62 : decode b_N_instruction 62 = .ok (.aload_n 0, 1) := by decide +kernel
theorem d_N_instruction_63 : decode b_N_instruction 63 = .ok (.getfield 7, 3) := by decide +kernel
theorem d_N_instruction_66 : decode b_N_instruction 66 = .ok (.bipush 16, 2) := by decide +kernel
theorem d_N_instruction_68 : decode b_N_instruction 68 = .ok (.lload_n 3, 1) := by decide +kernel
theorem d_N_instruction_69 : decode b_N_instruction 69 = .ok (.invokestatic 113, 3) := by decide +kernel
theorem d_N_instruction_72 : decode b_N_instruction 72 = .ok (.imul, 1) := by decide +kernel
theorem d_N_instruction_73 : decode b_N_instruction 73 = .ok (.aload_n 0, 1) := by decide +kernel
theorem d_N_instruction_74 : decode b_N_instruction 74 = .ok (.getfield 33, 3) := by decide +kernel
theorem d_N_instruction_77 : decode b_N_instruction 77 = .ok (.iload_n 1, 1) := by decide +kernel
theorem d_N_instruction_78 : decode b_N_instruction 78 = .ok (.iaload, 1) := by decide +kernel
theorem d_N_instruction_79 : decode b_N_instruction 79 = .ok (.iadd, 1) := by decide +kernel
theorem d_N_instruction_80 : decode b_N_instruction 80 = .ok (.aload_n 0, 1) := by decide +kernel
theorem d_N_instruction_81 : decode b_N_instruction 81 = .ok (.getfield 42, 3) := by decide +kernel
theorem d_N_instruction_84 : decode b_N_instruction 84 = .ok (.aload_n 0, 1) := by decide +kernel
theorem d_N_instruction_85 : decode b_N_instruction 85 = .ok (.getfield 36, 3) := by decide +kernel
theorem d_N_instruction_88 : decode b_N_instruction 88 = .ok (.iload_n 1, 1) := by decide +kernel
theorem d_N_instruction_89 : decode b_N_instruction 89 = .ok (.iaload, 1) := by decide +kernel
theorem d_N_instruction_90 : decode b_N_instruction 90 = .ok (.laload, 1) := by decide +kernel
theorem d_N_instruction_91 : decode b_N_instruction 91 = .ok (.lastore, 1) := by decide +kernel
theorem d_N_instruction_92 : decode b_N_instruction 92 = .ok (.goto 56, 3) := by decide +kernel
theorem d_N_instruction_95 : decode b_N_instruction 95 = .ok (.iload_n 2, 1) := by decide +kernel
theorem d_N_instruction_96 : decode b_N_instruction 96 = .ok (.bipush 13, 2) := by decide +kernel
theorem d_N_instruction_98 : decode b_N_instruction 98 = .ok (.if_icmp .ne 27, 3) := by decide +kernel
theorem d_N_instruction_101 : decode b_N_instruction 101 = .ok (.aload_n 0, 1) := by decide +kernel
theorem d_N_instruction_102 : decode b_N_instruction 102 = .ok (.lload_n 3, 1) := by decide +kernel
theorem d_N_instruction_103 : decode b_N_instruction 103 = .ok (.invokestatic 113, 3) := by decide +kernel
theorem d_N_instruction_106 : decode b_N_instruction 106 = .ok (.invokevirtual 98, 3) := by decide +kernel
theorem d_N_instruction_109 : decode b_N_instruction 109 = .ok (.ifCond .ne 39, 3) := by decide +kernel
theorem d_N_instruction_112 : decode b_N_instruction 112 = .ok (.aload_n 0, 1) := by decide +kernel
theorem d_N_instruction_113 : decode b_N_instruction 113 = .ok (.getfield 13, 3) := by decide +kernel
theorem d_N_instruction_116 : decode b_N_instruction 116 = .ok (.lload_n 3, 1) := by decide +kernel
theorem d_N_instruction_117 : decode b_N_instruction 117 = .ok (.invokestatic 113, 3) := by decide +kernel
theorem d_N_instruction_120 : decode b_N_instruction 120 = .ok (.iconst 0, 1) := by decide +kernel
theorem d_N_instruction_121 : decode b_N_instruction 121 = .ok (.bastore, 1) := by decide +kernel
theorem d_N_instruction_122 : decode b_N_instruction 122 = .ok (.goto 26, 3) := by decide +kernel
theorem d_N_instruction_125 : decode b_N_instruction 125 = .ok (.aload_n 0, 1) := by decide +kernel
theorem d_N_instruction_126 : decode b_N_instruction 126 = .ok (.getfield 42, 3) := by decide +kernel
theorem d_N_instruction_129 : decode b_N_instruction 129 = .ok (.aload_n 0, 1) := by decide +kernel
theorem d_N_instruction_130 : decode b_N_instruction 130 = .ok (.getfield 36, 3) := by decide +kernel
theorem d_N_instruction_133 : decode b_N_instruction 133 = .ok (.iload_n 1, 1) := by decide +kernel
theorem d_N_instruction_134 : decode b_N_instruction 134 = .ok (.iaload, 1) := by decide +kernel
theorem d_N_instruction_135 : decode b_N_instruction 135 = .ok (.aload_n 0, 1) := by decide +kernel
theorem d_N_instruction_136 : decode b_N_instruction 136 = .ok (.iload_n 2, 1) := by decide +kernel
theorem d_N_instruction_137 : decode b_N_instruction 137 = .ok (.lload_n 3, 1) := by decide +kernel
theorem d_N_instruction_138 : decode b_N_instruction 138 = .ok (.aload_n 0, 1) := by decide +kernel
theorem d_N_instruction_139 : decode b_N_instruction 139 = .ok (.getfield 33, 3) := by decide +kernel
theorem d_N_instruction_142 : decode b_N_instruction 142 = .ok (.iload_n 1, 1) := by decide +kernel
theorem d_N_instruction_143 : decode b_N_instruction 143 = .ok (.iaload, 1) := by decide +kernel
theorem d_N_instruction_144 : decode b_N_instruction 144 = .ok (.invokevirtual 129, 3) := by decide +kernel
theorem d_N_instruction_147 : decode b_N_instruction 147 = .ok (.lastore, 1) := by decide +kernel
theorem d_N_instruction_148 : decode b_N_instruction 148 = .ok (.return_, 1) := by decide +kernel
def f_N_instruction_44  (g : Sm) (x1 : Int32) (x2 : Int32) (y0 : Int64) : Option (Unit × Sm) := (if x2 = 8 then (qs_pb (f_N_whole (y0)) fun r23 => (qs_bn (f_N_gone g (r23)) fun r24 u25 => (if r24 = 0 then (qs_pb (f_N_whole (y0)) fun r27 => (qs_in (x1) 84 (qs_in (x1) 84 (qs_in (u25.1 9 x1.toNatClampNeg) 24 (qs_in ((16 * r27) + (u25.1 8 x1.toNatClampNeg)) 192 (qs_st (qm_la u25 1 ((16 * r27) + (u25.1 8 x1.toNatClampNeg)).toNatClampNeg (u25.2 11 (u25.1 9 x1.toNatClampNeg).toNatClampNeg)) fun u32 => (some ((), u32)))))))) else (some ((), u25))))) else (if x2 = 13 then (qs_pb (f_N_whole (y0)) fun r16 => (qs_bn (f_N_gone g (r16)) fun r17 u18 => (if r17 = 0 then (qs_pb (f_N_whole (y0)) fun r20 => (qs_in (r20) 12 (qs_st (qm_a u18 2 r20.toNatClampNeg (vp_nar .boolean (0 : Int32))) fun u22 => (some ((), u22))))) else (some ((), u18))))) else (qs_in (x1) 84 (qs_in (x1) 84 (qs_bn (f_N_given g (x2) (y0) (g.1 8 x1.toNatClampNeg)) fun r12 u13 => (qs_in (g.1 9 x1.toNatClampNeg) 24 (qs_st (qm_la u13 11 (g.1 9 x1.toNatClampNeg).toNatClampNeg (r12)) fun u15 => (some ((), u15)))))))))
def f_N_instruction_29  (g : Sm) (x1 : Int32) (x2 : Int32) : Option (Unit × Sm) := (qs_in (x1) 84 (qs_in (g.1 7 x1.toNatClampNeg) 24 (f_N_instruction_44 g (x1) (x2) (g.2 11 (g.1 7 x1.toNatClampNeg).toNatClampNeg))))
def f_N_instruction (g : Sm) (a1 : Int32) : Option (Unit × Sm) := (qs_in (a1) 84 (qs_pb (f_N_in (g.1 6 a1.toNatClampNeg) (1) (8)) fun r2 => (if r2 = 0 then (if (g.1 6 a1.toNatClampNeg) = 13 then (f_N_instruction_29 g (a1) (g.1 6 a1.toNatClampNeg)) else (if (g.1 6 a1.toNatClampNeg) = 14 then (f_N_instruction_29 g (a1) (g.1 6 a1.toNatClampNeg)) else (f_N_instruction_44 g (a1) (g.1 6 a1.toNatClampNeg) ((0 : Int64))))) else (f_N_instruction_29 g (a1) (g.1 6 a1.toNatClampNeg)))))
set_option maxHeartbeats 4000000 in
set_option maxRecDepth 100000 in
theorem c_N_instruction (l : Launch) (dC : Nat → ClassId) (dI : Nat → Nat → Nat) (h : Nat → Nat) (c : Nat → ClassId) (sz : Nat) (g : Sm) (a1 : Int32) (u0 : Sm) (hF : f_N_instruction g a1 = some ((), u0)) : Met l y_N_instruction (qs_ws y_N_instruction b_N_instruction 5 none) ({ frames := 3, cells := 0, slots := 0, locals := 71 } : Room) (va_Pc ([.ref (h 0), .int a1] : List Value) (fun U => U.heap.size = sz ∧ va_P (dC, dI) vwCl (ms_W h c g) U.heap ∧ va_K (dC, dI) vwCl (ms_T c) U ∧ va_D (fun _ => True) (ms_W h c g) ∧ qs_N U)) (va_Qv (fun (u : Sm) => u = u0) (ms_at dC dI h c (va_A (ms_W h c g) sz)) (va_A (ms_W h c g) sz)) 0 0 (va_A (ms_W h c g) sz) := by
  refine Met.ofW (cc := b_N_instruction) (maxL := 5) (ret := none) (by decide +kernel) rfl ?_
  intro p e s m args below meth cd s₁ B hml hv
  obtain ⟨rfl, hsz, hP, hK, hD0, hNs⟩ := hv
  have hx := B.exec
  have hb := B.bytes
  have hr := B.returns
  have hts := atoms_spec (ws := (qs_ws y_N_instruction b_N_instruction 5 none)) B.pre
  have hg : ∀ w ∈ qs_gt, w.before _ s = true := fun w h => hts w (List.mem_cons_of_mem _ h)
  have hown : s.vm.findClass R_N = some m.cls := findClass_of_methodNamed B.named
  have hlocks := B.notSynchronized
  subst hsz
  have hD := hD0.self (sz := s.heap.size)
  generalize hAe : va_A (ms_W h c g) s.heap.size = A at hD ⊢
  have hA : ∀ q : Nat, s.heap.size ≤ q → A q := fun q h => by rw [← hAe]; exact Or.inr h
  have hS : va_S A s.heap s.heap [] := va_S.rf
  have kb_44 : ∀ (g : Sm) (x1 : Int32) (x2 : Int32) (y0 : Int64) (H : Heap) (locs : List Loc) (ls : Array Slot), va_P (dC, dI) vwCl (ms_W h c g) H → va_D A (ms_W h c g) → va_S A s.heap H locs → lv_has ls 5 [(0, .ref (h 0)), (1, .int (x1)), (2, .int (x2))] → f_N_instruction_44  g x1 x2 y0 = some ((), u0) → W p l e (headSpec (qs_ws y_N_instruction b_N_instruction 5 none) ({ frames := 3, cells := 0, slots := 0, locals := 71 } : Room)).room s m ([.ref (h 0), .int a1] : List Value).toArray below meth cd H locs 0 0 (MQ below (va_Qv (fun (u : Sm) => u = u0) (ms_at dC dI h c A) A) ([.ref (h 0), .int a1] : List Value).toArray s 0 0 A) (F0 m 44 ls [.long (y0)]) := by
    intro g x1 x2 y0 H locs ls hP hD hS hl hF
    unfold f_N_instruction_44 at hF
    refine lv_lstore_n (lv' := [(3, .long (y0)), (0, .ref (h 0)), (1, .int (x1)), (2, .int (x2))]) hx hb d_N_instruction_44 rfl hl (by decide) rfl (fun ls hl => ?_)
    refine lv_iload_n hx hb d_N_instruction_45 rfl (lv_at hl 3 rfl) ?_
    refine lv_bipush (v := 8) hx hb d_N_instruction_46 (by decide) ?_
    refine lv_icmp_ne (tgt := 95) hx hb d_N_instruction_48 (by decide) (fun c8 => ?_) (fun c8 => ?_)
    · have hF := qs_neg c8 hF
      refine lv_iload_n hx hb d_N_instruction_95 rfl (lv_at hl 3 rfl) ?_
      refine lv_bipush (v := 13) hx hb d_N_instruction_96 (by decide) ?_
      refine lv_icmp_ne (tgt := 125) hx hb d_N_instruction_98 (by decide) (fun c9 => ?_) (fun c9 => ?_)
      · have hF := qs_neg c9 hF
        refine lv_aload_n hx hb d_N_instruction_125 rfl (lv_at hl 1 rfl) ?_
        refine va_get (D := (dC, dI)) (ci := 7) (v := .ref (h 11)) (C := R_N) (T := T_N) (N := 22) hx hb hg in_N hown hK hP 0 rfl rfl 12 (by decide) (hg _ t_630) (fun _ h9 => h9) rfl d_N_instruction_126 ?_
        refine lv_aload_n hx hb d_N_instruction_129 rfl (lv_at hl 1 rfl) ?_
        refine va_get (D := (dC, dI)) (ci := 7) (v := .ref (h 9)) (C := R_N) (T := T_N) (N := 22) hx hb hg in_N hown hK hP 0 rfl rfl 10 (by decide) (hg _ t_628) (fun _ h9 => h9) rfl d_N_instruction_130 ?_
        refine lv_iload_n hx hb d_N_instruction_133 rfl (lv_at hl 2 rfl) ?_
        obtain ⟨c10, hF⟩ := qs_in_some hF
        refine va_iald hx hb hK hP 9 8 rfl rfl c10 d_N_instruction_134 ?_
        refine lv_aload_n hx hb d_N_instruction_135 rfl (lv_at hl 1 rfl) ?_
        refine lv_iload_n hx hb d_N_instruction_136 rfl (lv_at hl 3 rfl) ?_
        refine lv_lload_n hx hb d_N_instruction_137 rfl (lv_at hl 0 rfl) ?_
        refine lv_aload_n hx hb d_N_instruction_138 rfl (lv_at hl 1 rfl) ?_
        refine va_get (D := (dC, dI)) (ci := 7) (v := .ref (h 8)) (C := R_N) (T := T_N) (N := 22) hx hb hg in_N hown hK hP 0 rfl rfl 9 (by decide) (hg _ t_627) (fun _ h9 => h9) rfl d_N_instruction_139 ?_
        refine lv_iload_n hx hb d_N_instruction_142 rfl (lv_at hl 2 rfl) ?_
        obtain ⟨c11, hF⟩ := qs_in_some hF
        refine va_iald hx hb hK hP 8 7 rfl rfl c11 d_N_instruction_143 ?_
        obtain ⟨r12, u13, hX, hF⟩ := qs_bn_some hF
        refine qs_cl (Wd := ms_W h c) (isC := [0, 1, 2, 3, 4, 5, 6, 7, 8, 9, 10, 11, 12]) (va_runV (own := "QuakeServerModel") (C := "QuakeServerModel") (As := [.int (x2), .long (y0), .int (g.1 8 x1.toNatClampNeg)]) (rest := [.int (g.1 9 x1.toNatClampNeg), .ref (h 11)]) ⟨hx, hb, hml, hown, hg⟩ (c_N_given l dC dI h c H.size g (x2) (y0) (g.1 8 x1.toNatClampNeg) r12 u13 hX) (cwV 3 hg (qs_gV t_779 t_781 tp_24 t_8 t_782) rfl rfl rfl (by decide +kernel) ⟨Nat.le_of_ble_eq_true rfl, Nat.le_of_ble_eq_true rfl⟩) ⟨qs_blind, va_recv hK hP (ci := 7) (q0 := 0) rfl rfl, fun U hU hW => ⟨rfl, by rw [hU], by rw [hU]; exact hP, va_K.moved hW.alike hK, hD.weaken (fun _ _ _ _ => trivial), hNs.warm hW⟩⟩ rfl rfl hl.1 rfl (lv_room (Nat.le_of_ble_eq_true rfl)) d_N_instruction_144 ⟨Nat.le_of_ble_eq_true rfl, Nat.le_of_ble_eq_true rfl⟩) rfl hP hD hS hA (fun H locs hP hD hS => ?_)
        obtain ⟨c14, hF⟩ := qs_in_some hF
        refine va_last hx hb hK hP hD hS 11 10 rfl rfl c14 d_N_instruction_147 (fun H locs hP hD hS => ?_)
        obtain ⟨u15, hu15, hF⟩ := qs_st_some hF
        have hP : va_P (dC, dI) vwCl (ms_W h c u15) H := by rw [hu15]; exact hP
        have hD : va_D A (ms_W h c u15) := by rw [hu15]; exact hD
        clear hu15
        obtain ⟨h8, h9⟩ := qs_ret hF
        exact W.vret hx hb hr (fun t ht hW => ⟨⟨u15, rfl, h9, by rw [ht]; exact hP, va_K.moved hW.alike hK, hD⟩, hS.F ht⟩) hS.2.2 d_N_instruction_148
      · have hF := qs_pos c9 hF
        refine lv_aload_n hx hb d_N_instruction_101 rfl (lv_at hl 1 rfl) ?_
        refine lv_lload_n hx hb d_N_instruction_102 rfl (lv_at hl 0 rfl) ?_
        obtain ⟨r16, hX, hF⟩ := qs_pb_some hF
        refine qs_psi (va_runS (own := "QuakeServerModel") (As := [.long (y0)]) (rest := [.ref (h 0)]) ⟨hx, hb, hml, hown, hg⟩ (c_N_whole l H.size (y0) r16 hX) (va_cwS 1 hg (qs_gS t_773 t_774 t_8 t_775) rfl rfl rfl (by decide +kernel) ⟨Nat.le_of_ble_eq_true rfl, Nat.le_of_ble_eq_true rfl⟩) ⟨qs_blind0, fun U hU hW => ⟨rfl, by rw [hU], hNs.warm hW⟩⟩ rfl rfl hl.1 rfl (lv_room (Nat.le_of_ble_eq_true rfl)) d_N_instruction_103 ⟨Nat.le_of_ble_eq_true rfl, Nat.le_of_ble_eq_true rfl⟩) hP hD hS hA (fun H locs hP hS => ?_)
        obtain ⟨r17, u18, hX, hF⟩ := qs_bn_some hF
        refine qs_ci (Wd := ms_W h c) (isC := [0, 1, 2, 3, 4, 5, 6, 7, 8, 9, 10, 11, 12]) (va_runV (own := "QuakeServerModel") (C := "QuakeServerModel") (As := [.int (r16)]) (rest := []) ⟨hx, hb, hml, hown, hg⟩ (c_N_gone l dC dI h c H.size g (r16) r17 u18 hX) (cwV 1 hg (qs_gV t_730 t_732 tp_19 t_8 t_733) rfl rfl rfl (by decide +kernel) ⟨Nat.le_of_ble_eq_true rfl, Nat.le_of_ble_eq_true rfl⟩) ⟨qs_blind, va_recv hK hP (ci := 7) (q0 := 0) rfl rfl, fun U hU hW => ⟨rfl, by rw [hU], by rw [hU]; exact hP, va_K.moved hW.alike hK, hD.weaken (fun _ _ _ _ => trivial), hNs.warm hW⟩⟩ rfl rfl hl.1 rfl (lv_room (Nat.le_of_ble_eq_true rfl)) d_N_instruction_106 ⟨Nat.le_of_ble_eq_true rfl, Nat.le_of_ble_eq_true rfl⟩) rfl hP hD hS hA (fun H locs hP hD hS => ?_)
        refine lv_if_ne (tgt := 148) hx hb d_N_instruction_109 (by decide) (fun c19 => ?_) (fun c19 => ?_)
        · have hF := qs_neg c19 hF
          obtain ⟨h8, h9⟩ := qs_ret hF
          exact W.vret hx hb hr (fun t ht hW => ⟨⟨u18, rfl, h9, by rw [ht]; exact hP, va_K.moved hW.alike hK, hD⟩, hS.F ht⟩) hS.2.2 d_N_instruction_148
        · have hF := qs_pos c19 hF
          refine lv_aload_n hx hb d_N_instruction_112 rfl (lv_at hl 1 rfl) ?_
          refine va_get (D := (dC, dI)) (ci := 7) (v := .ref (h 2)) (C := R_N) (T := T_N) (N := 22) hx hb hg in_N hown hK hP 0 rfl rfl 2 (by decide) (hg _ t_620) (fun _ h9 => h9) rfl d_N_instruction_113 ?_
          refine lv_lload_n hx hb d_N_instruction_116 rfl (lv_at hl 0 rfl) ?_
          obtain ⟨r20, hX, hF⟩ := qs_pb_some hF
          refine qs_psi (va_runS (own := "QuakeServerModel") (As := [.long (y0)]) (rest := [.ref (h 2)]) ⟨hx, hb, hml, hown, hg⟩ (c_N_whole l H.size (y0) r20 hX) (va_cwS 1 hg (qs_gS t_773 t_774 t_8 t_775) rfl rfl rfl (by decide +kernel) ⟨Nat.le_of_ble_eq_true rfl, Nat.le_of_ble_eq_true rfl⟩) ⟨qs_blind0, fun U hU hW => ⟨rfl, by rw [hU], hNs.warm hW⟩⟩ rfl rfl hl.1 rfl (lv_room (Nat.le_of_ble_eq_true rfl)) d_N_instruction_117 ⟨Nat.le_of_ble_eq_true rfl, Nat.le_of_ble_eq_true rfl⟩) hP hD hS hA (fun H locs hP hS => ?_)
          refine lv_iconst (v := 0) hx hb d_N_instruction_120 (by decide) ?_
          obtain ⟨c21, hF⟩ := qs_in_some hF
          refine va_zast hx hb hK hP hD hS 2 1 rfl rfl c21 d_N_instruction_121 (fun H locs hP hD hS => ?_)
          obtain ⟨u22, hu22, hF⟩ := qs_st_some hF
          have hP : va_P (dC, dI) vwCl (ms_W h c u22) H := by rw [hu22]; exact hP
          have hD : va_D A (ms_W h c u22) := by rw [hu22]; exact hD
          clear hu22
          refine lv_goto (tgt := 148) hx hb d_N_instruction_122 (by decide) ?_
          obtain ⟨h8, h9⟩ := qs_ret hF
          exact W.vret hx hb hr (fun t ht hW => ⟨⟨u22, rfl, h9, by rw [ht]; exact hP, va_K.moved hW.alike hK, hD⟩, hS.F ht⟩) hS.2.2 d_N_instruction_148
    · have hF := qs_pos c8 hF
      refine lv_aload_n hx hb d_N_instruction_51 rfl (lv_at hl 1 rfl) ?_
      refine lv_lload_n hx hb d_N_instruction_52 rfl (lv_at hl 0 rfl) ?_
      obtain ⟨r23, hX, hF⟩ := qs_pb_some hF
      refine qs_psi (va_runS (own := "QuakeServerModel") (As := [.long (y0)]) (rest := [.ref (h 0)]) ⟨hx, hb, hml, hown, hg⟩ (c_N_whole l H.size (y0) r23 hX) (va_cwS 1 hg (qs_gS t_773 t_774 t_8 t_775) rfl rfl rfl (by decide +kernel) ⟨Nat.le_of_ble_eq_true rfl, Nat.le_of_ble_eq_true rfl⟩) ⟨qs_blind0, fun U hU hW => ⟨rfl, by rw [hU], hNs.warm hW⟩⟩ rfl rfl hl.1 rfl (lv_room (Nat.le_of_ble_eq_true rfl)) d_N_instruction_53 ⟨Nat.le_of_ble_eq_true rfl, Nat.le_of_ble_eq_true rfl⟩) hP hD hS hA (fun H locs hP hS => ?_)
      obtain ⟨r24, u25, hX, hF⟩ := qs_bn_some hF
      refine qs_ci (Wd := ms_W h c) (isC := [0, 1, 2, 3, 4, 5, 6, 7, 8, 9, 10, 11, 12]) (va_runV (own := "QuakeServerModel") (C := "QuakeServerModel") (As := [.int (r23)]) (rest := []) ⟨hx, hb, hml, hown, hg⟩ (c_N_gone l dC dI h c H.size g (r23) r24 u25 hX) (cwV 1 hg (qs_gV t_730 t_732 tp_19 t_8 t_733) rfl rfl rfl (by decide +kernel) ⟨Nat.le_of_ble_eq_true rfl, Nat.le_of_ble_eq_true rfl⟩) ⟨qs_blind, va_recv hK hP (ci := 7) (q0 := 0) rfl rfl, fun U hU hW => ⟨rfl, by rw [hU], by rw [hU]; exact hP, va_K.moved hW.alike hK, hD.weaken (fun _ _ _ _ => trivial), hNs.warm hW⟩⟩ rfl rfl hl.1 rfl (lv_room (Nat.le_of_ble_eq_true rfl)) d_N_instruction_56 ⟨Nat.le_of_ble_eq_true rfl, Nat.le_of_ble_eq_true rfl⟩) rfl hP hD hS hA (fun H locs hP hD hS => ?_)
      refine lv_if_ne (tgt := 148) hx hb d_N_instruction_59 (by decide) (fun c26 => ?_) (fun c26 => ?_)
      · have hF := qs_neg c26 hF
        obtain ⟨h8, h9⟩ := qs_ret hF
        exact W.vret hx hb hr (fun t ht hW => ⟨⟨u25, rfl, h9, by rw [ht]; exact hP, va_K.moved hW.alike hK, hD⟩, hS.F ht⟩) hS.2.2 d_N_instruction_148
      · have hF := qs_pos c26 hF
        refine lv_aload_n hx hb d_N_instruction_62 rfl (lv_at hl 1 rfl) ?_
        refine va_get (D := (dC, dI)) (ci := 7) (v := .ref (h 1)) (C := R_N) (T := T_N) (N := 22) hx hb hg in_N hown hK hP 0 rfl rfl 1 (by decide) (hg _ t_619) (fun _ h9 => h9) rfl d_N_instruction_63 ?_
        refine lv_bipush (v := 16) hx hb d_N_instruction_66 (by decide) ?_
        refine lv_lload_n hx hb d_N_instruction_68 rfl (lv_at hl 0 rfl) ?_
        obtain ⟨r27, hX, hF⟩ := qs_pb_some hF
        refine qs_psi (va_runS (own := "QuakeServerModel") (As := [.long (y0)]) (rest := [.int (16), .ref (h 1)]) ⟨hx, hb, hml, hown, hg⟩ (c_N_whole l H.size (y0) r27 hX) (va_cwS 1 hg (qs_gS t_773 t_774 t_8 t_775) rfl rfl rfl (by decide +kernel) ⟨Nat.le_of_ble_eq_true rfl, Nat.le_of_ble_eq_true rfl⟩) ⟨qs_blind0, fun U hU hW => ⟨rfl, by rw [hU], hNs.warm hW⟩⟩ rfl rfl hl.1 rfl (lv_room (Nat.le_of_ble_eq_true rfl)) d_N_instruction_69 ⟨Nat.le_of_ble_eq_true rfl, Nat.le_of_ble_eq_true rfl⟩) hP hD hS hA (fun H locs hP hS => ?_)
        refine lv_imul hx hb d_N_instruction_72 ?_
        refine lv_aload_n hx hb d_N_instruction_73 rfl (lv_at hl 1 rfl) ?_
        refine va_get (D := (dC, dI)) (ci := 7) (v := .ref (h 8)) (C := R_N) (T := T_N) (N := 22) hx hb hg in_N hown hK hP 0 rfl rfl 9 (by decide) (hg _ t_627) (fun _ h9 => h9) rfl d_N_instruction_74 ?_
        refine lv_iload_n hx hb d_N_instruction_77 rfl (lv_at hl 2 rfl) ?_
        obtain ⟨c28, hF⟩ := qs_in_some hF
        refine va_iald hx hb hK hP 8 7 rfl rfl c28 d_N_instruction_78 ?_
        refine lv_iadd hx hb d_N_instruction_79 ?_
        refine lv_aload_n hx hb d_N_instruction_80 rfl (lv_at hl 1 rfl) ?_
        refine va_get (D := (dC, dI)) (ci := 7) (v := .ref (h 11)) (C := R_N) (T := T_N) (N := 22) hx hb hg in_N hown hK hP 0 rfl rfl 12 (by decide) (hg _ t_630) (fun _ h9 => h9) rfl d_N_instruction_81 ?_
        refine lv_aload_n hx hb d_N_instruction_84 rfl (lv_at hl 1 rfl) ?_
        refine va_get (D := (dC, dI)) (ci := 7) (v := .ref (h 9)) (C := R_N) (T := T_N) (N := 22) hx hb hg in_N hown hK hP 0 rfl rfl 10 (by decide) (hg _ t_628) (fun _ h9 => h9) rfl d_N_instruction_85 ?_
        refine lv_iload_n hx hb d_N_instruction_88 rfl (lv_at hl 2 rfl) ?_
        obtain ⟨c29, hF⟩ := qs_in_some hF
        refine va_iald hx hb hK hP 9 8 rfl rfl c29 d_N_instruction_89 ?_
        obtain ⟨c30, hF⟩ := qs_in_some hF
        refine va_lald hx hb hK hP 11 10 rfl rfl c30 d_N_instruction_90 ?_
        obtain ⟨c31, hF⟩ := qs_in_some hF
        refine va_last hx hb hK hP hD hS 1 0 rfl rfl c31 d_N_instruction_91 (fun H locs hP hD hS => ?_)
        obtain ⟨u32, hu32, hF⟩ := qs_st_some hF
        have hP : va_P (dC, dI) vwCl (ms_W h c u32) H := by rw [hu32]; exact hP
        have hD : va_D A (ms_W h c u32) := by rw [hu32]; exact hD
        clear hu32
        refine lv_goto (tgt := 148) hx hb d_N_instruction_92 (by decide) ?_
        obtain ⟨h8, h9⟩ := qs_ret hF
        exact W.vret hx hb hr (fun t ht hW => ⟨⟨u32, rfl, h9, by rw [ht]; exact hP, va_K.moved hW.alike hK, hD⟩, hS.F ht⟩) hS.2.2 d_N_instruction_148
  have kb_29 : ∀ (g : Sm) (x1 : Int32) (x2 : Int32) (H : Heap) (locs : List Loc) (ls : Array Slot), va_P (dC, dI) vwCl (ms_W h c g) H → va_D A (ms_W h c g) → va_S A s.heap H locs → lv_has ls 5 [(0, .ref (h 0)), (1, .int (x1)), (2, .int (x2))] → f_N_instruction_29  g x1 x2 = some ((), u0) → W p l e (headSpec (qs_ws y_N_instruction b_N_instruction 5 none) ({ frames := 3, cells := 0, slots := 0, locals := 71 } : Room)).room s m ([.ref (h 0), .int a1] : List Value).toArray below meth cd H locs 0 0 (MQ below (va_Qv (fun (u : Sm) => u = u0) (ms_at dC dI h c A) A) ([.ref (h 0), .int a1] : List Value).toArray s 0 0 A) (F0 m 29 ls []) := by
    intro g x1 x2 H locs ls hP hD hS hl hF
    unfold f_N_instruction_29 at hF
    refine lv_aload_n hx hb d_N_instruction_29 rfl (lv_at hl 0 rfl) ?_
    refine va_get (D := (dC, dI)) (ci := 7) (v := .ref (h 11)) (C := R_N) (T := T_N) (N := 22) hx hb hg in_N hown hK hP 0 rfl rfl 12 (by decide) (hg _ t_630) (fun _ h9 => h9) rfl d_N_instruction_30 ?_
    refine lv_aload_n hx hb d_N_instruction_33 rfl (lv_at hl 0 rfl) ?_
    refine va_get (D := (dC, dI)) (ci := 7) (v := .ref (h 7)) (C := R_N) (T := T_N) (N := 22) hx hb hg in_N hown hK hP 0 rfl rfl 8 (by decide) (hg _ t_626) (fun _ h9 => h9) rfl d_N_instruction_34 ?_
    refine lv_iload_n hx hb d_N_instruction_37 rfl (lv_at hl 1 rfl) ?_
    obtain ⟨c6, hF⟩ := qs_in_some hF
    refine va_iald hx hb hK hP 7 6 rfl rfl c6 d_N_instruction_38 ?_
    obtain ⟨c7, hF⟩ := qs_in_some hF
    refine va_lald hx hb hK hP 11 10 rfl rfl c7 d_N_instruction_39 ?_
    refine lv_goto (tgt := 44) hx hb d_N_instruction_40 (by decide) ?_
    exact kb_44 g (x1) (x2) (g.2 11 (g.1 7 x1.toNatClampNeg).toNatClampNeg) H locs ls hP hD hS (lv_sub hl [0, 1, 2] rfl) hF
  have hl := lv_entry ([.ref (h 0), .int a1] : List Value) (n := 5) (Nat.le_of_ble_eq_true rfl)
  rw [lg_entry_eq]
  generalize (lg_sl ([.ref (h 0), .int a1] : List Value) ++ List.replicate (5 - (lg_sl ([.ref (h 0), .int a1] : List Value)).length) Slot.unset).toArray = ls at hl ⊢
  have hl : lv_has ls 5 [(0, .ref (h 0)), (1, .int (a1))] := hl
  unfold f_N_instruction at hF
  obtain ⟨H, hHe⟩ : ∃ H, H = s.heap := ⟨_, rfl⟩
  obtain ⟨locs, hLe⟩ : ∃ L : List Loc, L = [] := ⟨_, rfl⟩
  rw [← hHe] at hP ⊢
  rw [← hLe]
  have hS : va_S A s.heap H locs := by rw [hHe, hLe]; exact hS
  refine lv_aload_n hx hb d_N_instruction_0 rfl (lv_at hl 0 rfl) ?_
  refine va_get (D := (dC, dI)) (ci := 7) (v := .ref (h 6)) (C := R_N) (T := T_N) (N := 22) hx hb hg in_N hown hK hP 0 rfl rfl 7 (by decide) (hg _ t_625) (fun _ h9 => h9) rfl d_N_instruction_1 ?_
  refine lv_iload_n hx hb d_N_instruction_4 rfl (lv_at hl 1 rfl) ?_
  obtain ⟨c1, hF⟩ := qs_in_some hF
  refine va_iald hx hb hK hP 6 5 rfl rfl c1 d_N_instruction_5 ?_
  refine lv_istore_n (lv' := [(2, .int (g.1 6 a1.toNatClampNeg)), (0, .ref (h 0)), (1, .int (a1))]) hx hb d_N_instruction_6 rfl hl (by decide) rfl (fun ls hl => ?_)
  refine lv_iload_n hx hb d_N_instruction_7 rfl (lv_at hl 0 rfl) ?_
  refine lv_iconst (v := 1) hx hb d_N_instruction_8 (by decide) ?_
  refine lv_bipush (v := 8) hx hb d_N_instruction_9 (by decide) ?_
  obtain ⟨r2, hX, hF⟩ := qs_pb_some hF
  refine qs_psi (va_runS (own := "QuakeServerModel") (As := [.int (g.1 6 a1.toNatClampNeg), .int (1), .int (8)]) (rest := []) ⟨hx, hb, hml, hown, hg⟩ (c_N_in l H.size (g.1 6 a1.toNatClampNeg) (1) (8) r2 hX) (va_cwS 3 hg (qs_gS t_694 t_695 t_8 t_696) rfl rfl rfl (by decide +kernel) ⟨Nat.le_of_ble_eq_true rfl, Nat.le_of_ble_eq_true rfl⟩) ⟨qs_blind0, fun U hU hW => ⟨rfl, by rw [hU], hNs.warm hW⟩⟩ rfl rfl hl.1 rfl (lv_room (Nat.le_of_ble_eq_true rfl)) d_N_instruction_11 ⟨Nat.le_of_ble_eq_true rfl, Nat.le_of_ble_eq_true rfl⟩) hP hD hS hA (fun H locs hP hS => ?_)
  refine lv_if_ne (tgt := 29) hx hb d_N_instruction_14 (by decide) (fun c3 => ?_) (fun c3 => ?_)
  · have hF := qs_neg c3 hF
    exact kb_29 g (a1) (g.1 6 a1.toNatClampNeg) H locs ls hP hD hS (lv_sub hl [1, 2, 0] rfl) hF
  · have hF := qs_pos c3 hF
    refine lv_iload_n hx hb d_N_instruction_17 rfl (lv_at hl 0 rfl) ?_
    refine lv_bipush (v := 13) hx hb d_N_instruction_18 (by decide) ?_
    refine lv_icmp_eq (tgt := 29) hx hb d_N_instruction_20 (by decide) (fun c4 => ?_) (fun c4 => ?_)
    · have hF := qs_pos c4 hF
      exact kb_29 g (a1) (g.1 6 a1.toNatClampNeg) H locs ls hP hD hS (lv_sub hl [1, 2, 0] rfl) hF
    · have hF := qs_neg c4 hF
      refine lv_iload_n hx hb d_N_instruction_23 rfl (lv_at hl 0 rfl) ?_
      refine lv_bipush (v := 14) hx hb d_N_instruction_24 (by decide) ?_
      refine lv_icmp_ne (tgt := 43) hx hb d_N_instruction_26 (by decide) (fun c5 => ?_) (fun c5 => ?_)
      · have hF := qs_neg c5 hF
        refine lv_lconst (v := 0) hx hb d_N_instruction_43 (by decide) ?_
        exact kb_44 g (a1) (g.1 6 a1.toNatClampNeg) ((0 : Int64)) H locs ls hP hD hS (lv_sub hl [1, 2, 0] rfl) hF
      · have hF := qs_pos c5 hF
        exact kb_29 g (a1) (g.1 6 a1.toNatClampNeg) H locs ls hP hD hS (lv_sub hl [1, 2, 0] rfl) hF

theorem d_N_unwound_0 : decode b_N_unwound 0 = .ok (.iload_n 1, 1) := by decide +kernel
theorem d_N_unwound_1 : decode b_N_unwound 1 = .ok (.istore_n 2, 1) := by decide +kernel
theorem d_N_unwound_2 : decode b_N_unwound 2 = .ok (.aload_n 0, 1) := by decide +kernel
theorem d_N_unwound_3 : decode b_N_unwound 3 = .ok (.getfield 133, 3) := by decide +kernel
theorem d_N_unwound_6 : decode b_N_unwound 6 = .ok (.ifCond .le 46, 3) := by decide +kernel
theorem d_N_unwound_9 : decode b_N_unwound 9 = .ok (.iload_n 2, 1) := by decide +kernel
theorem d_N_unwound_10 : decode b_N_unwound 10 = .ok (.ifCond .lt 19, 3) := by decide +kernel
theorem d_N_unwound_13 : decode b_N_unwound 13 = .ok (.iload_n 2, 1) := by decide +kernel
theorem d_N_unwound_14 : decode b_N_unwound 14 = .ok (.bipush 15, 2) := by decide +kernel
theorem d_N_unwound_16 : decode b_N_unwound 16 = .ok (.irem, 1) := by decide +kernel
theorem d_N_unwound_17 : decode b_N_unwound 17 = .ok (.aload_n 0, 1) := by decide +kernel
theorem d_N_unwound_18 : decode b_N_unwound 18 = .ok (.getfield 39, 3) := by decide +kernel
theorem d_N_unwound_21 : decode b_N_unwound 21 = .ok (.iload_n 2, 1) := by decide +kernel
theorem d_N_unwound_22 : decode b_N_unwound 22 = .ok (.bipush 15, 2) := by decide +kernel
theorem d_N_unwound_24 : decode b_N_unwound 24 = .ok (.idiv, 1) := by decide +kernel
theorem d_N_unwound_25 : decode b_N_unwound 25 = .ok (.iaload, 1) := by decide +kernel
theorem d_N_unwound_26 : decode b_N_unwound 26 = .ok (.if_icmp .lt 26, 3) := by decide +kernel
theorem d_N_unwound_29 : decode b_N_unwound 29 = .ok (.aload_n 0, 1) := by decide +kernel
theorem d_N_unwound_30 : decode b_N_unwound 30 = .ok (.dup, 1) := by decide +kernel
theorem d_N_unwound_31 : decode b_N_unwound 31 = .ok (.getfield 133, 3) := by decide +kernel
theorem d_N_unwound_34 : decode b_N_unwound 34 = .ok (.iconst 1, 1) := by decide +kernel
theorem d_N_unwound_35 : decode b_N_unwound 35 = .ok (.isub, 1) := by decide +kernel
theorem d_N_unwound_36 : decode b_N_unwound 36 = .ok (.putfield 133, 3) := by decide +kernel
theorem d_N_unwound_39 : decode b_N_unwound 39 = .ok (.aload_n 0, 1) := by decide +kernel
theorem d_N_unwound_40 : decode b_N_unwound 40 = .ok (.getfield 49, 3) := by decide +kernel
theorem d_N_unwound_43 : decode b_N_unwound 43 = .ok (.aload_n 0, 1) := by decide +kernel
theorem d_N_unwound_44 : decode b_N_unwound 44 = .ok (.getfield 133, 3) := by decide +kernel
theorem d_N_unwound_47 : decode b_N_unwound 47 = .ok (.iaload, 1) := by decide +kernel
theorem d_N_unwound_48 : decode b_N_unwound 48 = .ok (.istore_n 2, 1) := by decide +kernel
theorem d_N_unwound_49 : decode b_N_unwound 49 = .ok (.goto (-47), 3) := by decide +kernel
theorem d_N_unwound_52 : decode b_N_unwound 52 = .ok (.iload_n 2, 1) := by decide +kernel
theorem d_N_unwound_53 : decode b_N_unwound 53 = .ok (.ifCond .lt 23, 3) := by decide +kernel
theorem d_N_unwound_56 : decode b_N_unwound 56 = .ok (.iload_n 2, 1) := by decide +kernel
theorem d_N_unwound_57 : decode b_N_unwound 57 = .ok (.bipush 15, 2) := by decide +kernel
theorem d_N_unwound_59 : decode b_N_unwound 59 = .ok (.irem, 1) := by decide +kernel
theorem d_N_unwound_60 : decode b_N_unwound 60 = .ok (.aload_n 0, 1) := by decide +kernel
theorem d_N_unwound_61 : decode b_N_unwound 61 = .ok (.getfield 39, 3) := by decide +kernel
theorem d_N_unwound_64 : decode b_N_unwound 64 = .ok (.iload_n 2, 1) := by decide +kernel
theorem d_N_unwound_65 : decode b_N_unwound 65 = .ok (.bipush 15, 2) := by decide +kernel
theorem d_N_unwound_67 : decode b_N_unwound 67 = .ok (.idiv, 1) := by decide +kernel
theorem d_N_unwound_68 : decode b_N_unwound 68 = .ok (.iaload, 1) := by decide +kernel
theorem d_N_unwound_69 : decode b_N_unwound 69 = .ok (.if_icmp .ge 7, 3) := by decide +kernel
theorem d_N_unwound_72 : decode b_N_unwound 72 = .ok (.iload_n 2, 1) := by decide +kernel
theorem d_N_unwound_73 : decode b_N_unwound 73 = .ok (.goto 4, 3) := by decide +kernel
theorem d_N_unwound_76 : decode b_N_unwound 76 = .ok (.iconst (-1), 1) := by decide +kernel
theorem d_N_unwound_77 : decode b_N_unwound 77 = .ok (.ireturn, 1) := by decide +kernel
def f_N_unwound_52  (g : Sm) (x2 : Int32) : Option (Int32 × Sm) := (if x2 < 0 then (some ((-1), g)) else (qs_in (x2 / 15) 6 (if (g.1 10 (x2 / 15).toNatClampNeg) ≤ (x2 - x2 / 15 * 15) then (some ((-1), g)) else (some (x2, g)))))
def f_N_unwound_29 (k2 : Sm → Int32 → Option (Int32 × Sm)) (g : Sm) : Option (Int32 × Sm) := (qs_st (qm_i g 29 ((g.1 29 0) - 1)) fun u8 => (qs_in (u8.1 29 0) 6 (k2 u8 (u8.1 12 (u8.1 29 0).toNatClampNeg))))
def f_N_unwound_2  : Nat → Sm → Int32 → Option (Int32 × Sm)
  | 0, _, _ => none
  | n + 1, g, x2 => (if (g.1 29 0) ≤ 0 then (f_N_unwound_52 g (x2)) else (if x2 < 0 then (f_N_unwound_29 (fun g x2 => f_N_unwound_2  n g x2) g) else (qs_in (x2 / 15) 6 (if (x2 - x2 / 15 * 15) < (g.1 10 (x2 / 15).toNatClampNeg) then (f_N_unwound_52 g (x2)) else (f_N_unwound_29 (fun g x2 => f_N_unwound_2  n g x2) g)))))
def f_N_unwound (g : Sm) (a1 : Int32) : Option (Int32 × Sm) := (f_N_unwound_2 200 g (a1))
set_option maxHeartbeats 4000000 in
set_option maxRecDepth 100000 in
theorem c_N_unwound (l : Launch) (dC : Nat → ClassId) (dI : Nat → Nat → Nat) (h : Nat → Nat) (c : Nat → ClassId) (sz : Nat) (g : Sm) (a1 : Int32) (r0 : Int32) (u0 : Sm) (hF : f_N_unwound g a1 = some (r0, u0)) : Met l y_N_unwound (qs_ws y_N_unwound b_N_unwound 3 (some .int)) ({ frames := 0, cells := 0, slots := 0, locals := 0 } : Room) (va_Pc ([.ref (h 0), .int a1] : List Value) (fun U => U.heap.size = sz ∧ va_P (dC, dI) vwCl (ms_W h c g) U.heap ∧ va_K (dC, dI) vwCl (ms_T c) U ∧ va_D (fun _ => True) (ms_W h c g) ∧ qs_N U)) (va_Qi (fun (r : Int32) (u : Sm) => r = r0 ∧ u = u0) (ms_at dC dI h c (va_A (ms_W h c g) sz)) (va_A (ms_W h c g) sz)) 0 0 (va_A (ms_W h c g) sz) := by
  refine Met.ofW (cc := b_N_unwound) (maxL := 3) (ret := (some .int)) (by decide +kernel) rfl ?_
  intro p e s m args below meth cd s₁ B hml hv
  obtain ⟨rfl, hsz, hP, hK, hD0, hNs⟩ := hv
  have hx := B.exec
  have hb := B.bytes
  have hr := B.returns
  have hts := atoms_spec (ws := (qs_ws y_N_unwound b_N_unwound 3 (some .int))) B.pre
  have hg : ∀ w ∈ qs_gt, w.before _ s = true := fun w h => hts w (List.mem_cons_of_mem _ h)
  have hown : s.vm.findClass R_N = some m.cls := findClass_of_methodNamed B.named
  have hlocks := B.notSynchronized
  subst hsz
  have hD := hD0.self (sz := s.heap.size)
  generalize hAe : va_A (ms_W h c g) s.heap.size = A at hD ⊢
  have hA : ∀ q : Nat, s.heap.size ≤ q → A q := fun q h => by rw [← hAe]; exact Or.inr h
  have hS : va_S A s.heap s.heap [] := va_S.rf
  have kb_52 : ∀ (g : Sm) (x2 : Int32) (H : Heap) (locs : List Loc) (ls : Array Slot), va_P (dC, dI) vwCl (ms_W h c g) H → va_D A (ms_W h c g) → va_S A s.heap H locs → lv_has ls 3 [(0, .ref (h 0)), (2, .int (x2))] → f_N_unwound_52  g x2 = some (r0, u0) → W p l e (headSpec (qs_ws y_N_unwound b_N_unwound 3 (some .int)) ({ frames := 0, cells := 0, slots := 0, locals := 0 } : Room)).room s m ([.ref (h 0), .int a1] : List Value).toArray below meth cd H locs 0 0 (MQ below (va_Qi (fun (r : Int32) (u : Sm) => r = r0 ∧ u = u0) (ms_at dC dI h c A) A) ([.ref (h 0), .int a1] : List Value).toArray s 0 0 A) (F0 m 52 ls []) := by
    intro g x2 H locs ls hP hD hS hl hF
    unfold f_N_unwound_52 at hF
    refine lv_iload_n hx hb d_N_unwound_52 rfl (lv_at hl 1 rfl) ?_
    refine lv_if_lt (tgt := 76) hx hb d_N_unwound_53 (by decide) (fun c5 => ?_) (fun c5 => ?_)
    · have hF := qs_pos c5 hF
      refine lv_iconst (v := (-1)) hx hb d_N_unwound_76 (by decide) ?_
      obtain ⟨h8, h9⟩ := qs_ret hF
      exact W.iret (v := (-1)) hx hb hr (fun t ht hW => ⟨⟨(-1), g, rfl, ⟨h8, h9⟩, by rw [ht]; exact hP, va_K.moved hW.alike hK, hD⟩, hS.F ht⟩) hS.2.2 d_N_unwound_77
    · have hF := qs_neg c5 hF
      refine lv_iload_n hx hb d_N_unwound_56 rfl (lv_at hl 1 rfl) ?_
      refine lv_bipush (v := 15) hx hb d_N_unwound_57 (by decide) ?_
      refine lv_irem hx hb d_N_unwound_59 (by decide) ?_
      refine lv_aload_n hx hb d_N_unwound_60 rfl (lv_at hl 0 rfl) ?_
      refine va_get (D := (dC, dI)) (ci := 7) (v := .ref (h 10)) (C := R_N) (T := T_N) (N := 22) hx hb hg in_N hown hK hP 0 rfl rfl 11 (by decide) (hg _ t_629) (fun _ h9 => h9) rfl d_N_unwound_61 ?_
      refine lv_iload_n hx hb d_N_unwound_64 rfl (lv_at hl 1 rfl) ?_
      refine lv_bipush (v := 15) hx hb d_N_unwound_65 (by decide) ?_
      refine lv_idiv hx hb d_N_unwound_67 (by decide) ?_
      obtain ⟨c6, hF⟩ := qs_in_some hF
      refine va_iald hx hb hK hP 10 9 rfl rfl c6 d_N_unwound_68 ?_
      refine lv_icmp_ge (tgt := 76) hx hb d_N_unwound_69 (by decide) (fun c7 => ?_) (fun c7 => ?_)
      · have hF := qs_pos c7 hF
        refine lv_iconst (v := (-1)) hx hb d_N_unwound_76 (by decide) ?_
        obtain ⟨h8, h9⟩ := qs_ret hF
        exact W.iret (v := (-1)) hx hb hr (fun t ht hW => ⟨⟨(-1), g, rfl, ⟨h8, h9⟩, by rw [ht]; exact hP, va_K.moved hW.alike hK, hD⟩, hS.F ht⟩) hS.2.2 d_N_unwound_77
      · have hF := qs_neg c7 hF
        refine lv_iload_n hx hb d_N_unwound_72 rfl (lv_at hl 1 rfl) ?_
        refine lv_goto (tgt := 77) hx hb d_N_unwound_73 (by decide) ?_
        obtain ⟨h8, h9⟩ := qs_ret hF
        exact W.iret (v := x2) hx hb hr (fun t ht hW => ⟨⟨x2, g, rfl, ⟨h8, h9⟩, by rw [ht]; exact hP, va_K.moved hW.alike hK, hD⟩, hS.F ht⟩) hS.2.2 d_N_unwound_77
  have kb_29 : ∀ (k2 : Sm → Int32 → Option (Int32 × Sm)), (∀ (g : Sm) (x2 : Int32) (H : Heap) (locs : List Loc) (ls : Array Slot), va_P (dC, dI) vwCl (ms_W h c g) H → va_D A (ms_W h c g) → va_S A s.heap H locs → lv_has ls 3 [(0, .ref (h 0)), (2, .int (x2))] → k2 g x2 = some (r0, u0) → W p l e (headSpec (qs_ws y_N_unwound b_N_unwound 3 (some .int)) ({ frames := 0, cells := 0, slots := 0, locals := 0 } : Room)).room s m ([.ref (h 0), .int a1] : List Value).toArray below meth cd H locs 0 0 (MQ below (va_Qi (fun (r : Int32) (u : Sm) => r = r0 ∧ u = u0) (ms_at dC dI h c A) A) ([.ref (h 0), .int a1] : List Value).toArray s 0 0 A) (F0 m 2 ls [])) → ∀ (g : Sm) (H : Heap) (locs : List Loc) (ls : Array Slot), va_P (dC, dI) vwCl (ms_W h c g) H → va_D A (ms_W h c g) → va_S A s.heap H locs → lv_has ls 3 [(0, .ref (h 0))] → f_N_unwound_29 k2  g = some (r0, u0) → W p l e (headSpec (qs_ws y_N_unwound b_N_unwound 3 (some .int)) ({ frames := 0, cells := 0, slots := 0, locals := 0 } : Room)).room s m ([.ref (h 0), .int a1] : List Value).toArray below meth cd H locs 0 0 (MQ below (va_Qi (fun (r : Int32) (u : Sm) => r = r0 ∧ u = u0) (ms_at dC dI h c A) A) ([.ref (h 0), .int a1] : List Value).toArray s 0 0 A) (F0 m 29 ls []) := by
    intro k2 hk2
    intro g H locs ls hP hD hS hl hF
    unfold f_N_unwound_29 at hF
    refine lv_aload_n hx hb d_N_unwound_29 rfl (lv_at hl 0 rfl) ?_
    refine lv_dup hx hb d_N_unwound_30 rfl ?_
    refine va_get (D := (dC, dI)) (ci := 7) (v := .int (g.1 29 0)) (C := R_N) (T := T_N) (N := 22) hx hb hg in_N hown hK hP 0 rfl rfl 21 (by decide) (hg _ t_639) (fun _ h9 => h9) rfl d_N_unwound_31 ?_
    refine lv_iconst (v := 1) hx hb d_N_unwound_34 (by decide) ?_
    refine lv_isub hx hb d_N_unwound_35 ?_
    refine va_put (D := (dC, dI)) (ci := 7) (v := .int ((g.1 29 0) - 1)) (ty := .int) (C := R_N) (T := T_N) (N := 22) hx hb hg in_N ty_N ty_N_ok nm_N hown hK hP hD hS 0 rfl rfl 21 (by decide) (hg _ t_639) (fun _ h9 => h9) rfl (by decide +kernel) rfl rfl (Nat.le_of_ble_eq_true rfl) d_N_unwound_36 (fun H locs hP hD hS => ?_)
    obtain ⟨u8, hu8, hF⟩ := qs_st_some hF
    have hP : va_P (dC, dI) vwCl (ms_W h c u8) H := by rw [hu8]; exact hP
    have hD : va_D A (ms_W h c u8) := by rw [hu8]; exact hD
    clear hu8
    refine lv_aload_n hx hb d_N_unwound_39 rfl (lv_at hl 0 rfl) ?_
    refine va_get (D := (dC, dI)) (ci := 7) (v := .ref (h 12)) (C := R_N) (T := T_N) (N := 22) hx hb hg in_N hown hK hP 0 rfl rfl 18 (by decide) (hg _ t_636) (fun _ h9 => h9) rfl d_N_unwound_40 ?_
    refine lv_aload_n hx hb d_N_unwound_43 rfl (lv_at hl 0 rfl) ?_
    refine va_get (D := (dC, dI)) (ci := 7) (v := .int (u8.1 29 0)) (C := R_N) (T := T_N) (N := 22) hx hb hg in_N hown hK hP 0 rfl rfl 21 (by decide) (hg _ t_639) (fun _ h9 => h9) rfl d_N_unwound_44 ?_
    obtain ⟨c9, hF⟩ := qs_in_some hF
    refine va_iald hx hb hK hP 12 11 rfl rfl c9 d_N_unwound_47 ?_
    refine lv_istore_n (lv' := [(2, .int (u8.1 12 (u8.1 29 0).toNatClampNeg)), (0, .ref (h 0))]) hx hb d_N_unwound_48 rfl hl (by decide) rfl (fun ls hl => ?_)
    refine lv_goto (tgt := 2) hx hb d_N_unwound_49 (by decide) ?_
    exact hk2 u8 (u8.1 12 (u8.1 29 0).toNatClampNeg) H locs ls hP hD hS (lv_sub hl [1, 0] rfl) hF
  have kb_2 : ∀ n : Nat, ∀ (g : Sm) (x2 : Int32) (H : Heap) (locs : List Loc) (ls : Array Slot), va_P (dC, dI) vwCl (ms_W h c g) H → va_D A (ms_W h c g) → va_S A s.heap H locs → lv_has ls 3 [(0, .ref (h 0)), (2, .int (x2))] → f_N_unwound_2 n g x2 = some (r0, u0) → W p l e (headSpec (qs_ws y_N_unwound b_N_unwound 3 (some .int)) ({ frames := 0, cells := 0, slots := 0, locals := 0 } : Room)).room s m ([.ref (h 0), .int a1] : List Value).toArray below meth cd H locs 0 0 (MQ below (va_Qi (fun (r : Int32) (u : Sm) => r = r0 ∧ u = u0) (ms_at dC dI h c A) A) ([.ref (h 0), .int a1] : List Value).toArray s 0 0 A) (F0 m 2 ls []) := by
    intro n
    induction n with
    | zero =>
      intro g x2 H locs ls hP hD hS hl hF
      exact nomatch (show (none : Option (Int32 × Sm)) = some _ from hF)
    | succ n ih =>
      intro g x2 H locs ls hP hD hS hl hF
      rw [f_N_unwound_2] at hF
      refine lv_aload_n hx hb d_N_unwound_2 rfl (lv_at hl 0 rfl) ?_
      refine va_get (D := (dC, dI)) (ci := 7) (v := .int (g.1 29 0)) (C := R_N) (T := T_N) (N := 22) hx hb hg in_N hown hK hP 0 rfl rfl 21 (by decide) (hg _ t_639) (fun _ h9 => h9) rfl d_N_unwound_3 ?_
      refine lv_if_le (tgt := 52) hx hb d_N_unwound_6 (by decide) (fun c1 => ?_) (fun c1 => ?_)
      · have hF := qs_pos c1 hF
        exact kb_52 g (x2) H locs ls hP hD hS (lv_sub hl [0, 1] rfl) hF
      · have hF := qs_neg c1 hF
        refine lv_iload_n hx hb d_N_unwound_9 rfl (lv_at hl 1 rfl) ?_
        refine lv_if_lt (tgt := 29) hx hb d_N_unwound_10 (by decide) (fun c2 => ?_) (fun c2 => ?_)
        · have hF := qs_pos c2 hF
          exact kb_29 _ ih g H locs ls hP hD hS (lv_sub hl [0] rfl) hF
        · have hF := qs_neg c2 hF
          refine lv_iload_n hx hb d_N_unwound_13 rfl (lv_at hl 1 rfl) ?_
          refine lv_bipush (v := 15) hx hb d_N_unwound_14 (by decide) ?_
          refine lv_irem hx hb d_N_unwound_16 (by decide) ?_
          refine lv_aload_n hx hb d_N_unwound_17 rfl (lv_at hl 0 rfl) ?_
          refine va_get (D := (dC, dI)) (ci := 7) (v := .ref (h 10)) (C := R_N) (T := T_N) (N := 22) hx hb hg in_N hown hK hP 0 rfl rfl 11 (by decide) (hg _ t_629) (fun _ h9 => h9) rfl d_N_unwound_18 ?_
          refine lv_iload_n hx hb d_N_unwound_21 rfl (lv_at hl 1 rfl) ?_
          refine lv_bipush (v := 15) hx hb d_N_unwound_22 (by decide) ?_
          refine lv_idiv hx hb d_N_unwound_24 (by decide) ?_
          obtain ⟨c3, hF⟩ := qs_in_some hF
          refine va_iald hx hb hK hP 10 9 rfl rfl c3 d_N_unwound_25 ?_
          refine lv_icmp_lt (tgt := 52) hx hb d_N_unwound_26 (by decide) (fun c4 => ?_) (fun c4 => ?_)
          · have hF := qs_pos c4 hF
            exact kb_52 g (x2) H locs ls hP hD hS (lv_sub hl [0, 1] rfl) hF
          · have hF := qs_neg c4 hF
            exact kb_29 _ ih g H locs ls hP hD hS (lv_sub hl [0] rfl) hF
  have hl := lv_entry ([.ref (h 0), .int a1] : List Value) (n := 3) (Nat.le_of_ble_eq_true rfl)
  rw [lg_entry_eq]
  generalize (lg_sl ([.ref (h 0), .int a1] : List Value) ++ List.replicate (3 - (lg_sl ([.ref (h 0), .int a1] : List Value)).length) Slot.unset).toArray = ls at hl ⊢
  have hl : lv_has ls 3 [(0, .ref (h 0)), (1, .int (a1))] := hl
  unfold f_N_unwound at hF
  obtain ⟨H, hHe⟩ : ∃ H, H = s.heap := ⟨_, rfl⟩
  obtain ⟨locs, hLe⟩ : ∃ L : List Loc, L = [] := ⟨_, rfl⟩
  rw [← hHe] at hP ⊢
  rw [← hLe]
  have hS : va_S A s.heap H locs := by rw [hHe, hLe]; exact hS
  refine lv_iload_n hx hb d_N_unwound_0 rfl (lv_at hl 1 rfl) ?_
  refine lv_istore_n (lv' := [(2, .int (a1)), (0, .ref (h 0)), (1, .int (a1))]) hx hb d_N_unwound_1 rfl hl (by decide) rfl (fun ls hl => ?_)
  exact kb_2 200 g (a1) H locs ls hP hD hS (lv_sub hl [1, 0] rfl) hF
