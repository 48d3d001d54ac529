theorem d_E_erase_0 : decode b_E_erase 0 = .ok (.aload_n 0, 1) := by decide +kernel
theorem d_E_erase_1 : decode b_E_erase 1 = .ok (.iload_n 1, 1) := by decide +kernel
theorem d_E_erase_2 : decode b_E_erase 2 = .ok (.invokevirtual 19, 3) := by decide +kernel
theorem d_E_erase_5 : decode b_E_erase 5 = .ok (.ifCond .ne 4, 3) := by decide +kernel
theorem d_E_erase_8 : decode b_E_erase 8 = .ok (.return_, 1) := by decide +kernel
theorem d_E_erase_9 : decode b_E_erase 9 = .ok (.aload_n 0, 1) := by decide +kernel
theorem d_E_erase_10 : decode b_E_erase 10 = .ok (.getfield 9, 3) := by decide +kernel
theorem d_E_erase_13 : decode b_E_erase 13 = .ok (.iload_n 1, 1) := by decide +kernel
theorem d_E_erase_14 : decode b_E_erase 14 = .ok (.iconst 0, 1) := by decide +kernel
theorem d_E_erase_15 : decode b_E_erase 15 = .ok (.bastore, 1) := by decide +kernel
theorem d_E_erase_16 : decode b_E_erase 16 = .ok (.iconst 0, 1) := by decide +kernel
theorem d_E_erase_17 : decode b_E_erase 17 = .ok (.istore_n 2, 1) := by decide +kernel
theorem d_E_erase_18 : decode b_E_erase 18 = .ok (.iload_n 2, 1) := by decide +kernel
theorem d_E_erase_19 : decode b_E_erase 19 = .ok (.bipush 16, 2) := by decide +kernel
theorem d_E_erase_21 : decode b_E_erase 21 = .ok (.if_icmp .ge 21, 3) := by decide +kernel
theorem d_E_erase_24 : decode b_E_erase 24 = .ok (.aload_n 0, 1) := by decide +kernel
theorem d_E_erase_25 : decode b_E_erase 25 = .ok (.getfield 15, 3) := by decide +kernel
theorem d_E_erase_28 : decode b_E_erase 28 = .ok (.iload_n 1, 1) := by decide +kernel
theorem d_E_erase_29 : decode b_E_erase 29 = .ok (.bipush 16, 2) := by decide +kernel
theorem d_E_erase_31 : decode b_E_erase 31 = .ok (.imul, 1) := by decide +kernel
theorem d_E_erase_32 : decode b_E_erase 32 = .ok (.iload_n 2, 1) := by decide +kernel
theorem d_E_erase_33 : decode b_E_erase 33 = .ok (.iadd, 1) := by decide +kernel
theorem d_E_erase_34 : decode b_E_erase 34 = .ok (.iconst 0, 1) := by decide +kernel
theorem d_E_erase_35 : decode b_E_erase 35 = .ok (.iastore, 1) := by decide +kernel
theorem d_E_erase_36 : decode b_E_erase 36 = .ok (.iinc 2 1, 3) := by decide +kernel
theorem d_E_erase_39 : decode b_E_erase 39 = .ok (.goto (-21), 3) := by decide +kernel
theorem d_E_erase_42 : decode b_E_erase 42 = .ok (.return_, 1) := by decide +kernel
def f_E_erase_18  : Nat → Sg → Int32 → Int32 → Option (Unit × Sg)
  | 0, _, _, _ => none
  | n + 1, g, x1, x2 => (if 16 ≤ x2 then (some ((), g)) else (qs_in ((x1 * 16) + x2) 192 (qs_st (qs_a g 8 ((x1 * 16) + x2).toNatClampNeg (0)) fun u8 => (f_E_erase_18 n u8 (x1) (x2 + 1)))))
def f_E_erase (g : Sg) (a1 : Int32) : Option (Unit × Sg) := (qs_bn (f_E_isThere g (a1)) fun r1 u2 => (if r1 = 0 then (some ((), u2)) else (qs_in (a1) 12 (qs_st (qs_a u2 7 a1.toNatClampNeg (vp_nar .boolean (0 : Int32))) fun u5 => (f_E_erase_18 200 u5 (a1) (0))))))
set_option maxHeartbeats 4000000 in
set_option maxRecDepth 100000 in
theorem c_E_erase (l : Launch) (dC : Nat → ClassId) (dI : Nat → Nat → Nat) (h : Nat → Nat) (c : Nat → ClassId) (sz : Nat) (g : Sg) (a1 : Int32) (u0 : Sg) (hF : f_E_erase g a1 = some ((), u0)) : Met l y_E_erase (qs_ws y_E_erase b_E_erase 3 none) ({ frames := 1, cells := 0, slots := 0, locals := 21 } : Room) (va_Pc ([.ref (h 1), .int a1] : List Value) (fun U => U.heap.size = sz ∧ va_P (dC, dI) vwCl (qs_W h c g) U.heap ∧ va_K (dC, dI) vwCl (qs_T c) U ∧ va_D (fun _ => True) (qs_W h c g) ∧ qs_N U)) (va_Qv (fun (u : Sg) => u = u0) (qs_at dC dI h c (va_A (qs_W h c g) sz)) (va_A (qs_W h c g) sz)) 0 0 (va_A (qs_W h c g) sz) := by
  refine Met.ofW (cc := b_E_erase) (maxL := 3) (ret := none) (by decide +kernel) rfl ?_
  intro p e s m args below meth cd s₁ B hml hv
  obtain ⟨rfl, hsz, hP, hK, hD0, hNs⟩ := hv
  have hx := B.exec
  have hb := B.bytes
  have hr := B.returns
  have hts := atoms_spec (ws := (qs_ws y_E_erase b_E_erase 3 none)) B.pre
  have hg : ∀ w ∈ qs_gt, w.before _ s = true := fun w h => hts w (List.mem_cons_of_mem _ h)
  have hown : s.vm.findClass R_E = some m.cls := findClass_of_methodNamed B.named
  have hlocks := B.notSynchronized
  subst hsz
  have hD := hD0.self (sz := s.heap.size)
  generalize hAe : va_A (qs_W h c g) s.heap.size = A at hD ⊢
  have hA : ∀ q : Nat, s.heap.size ≤ q → A q := fun q h => by rw [← hAe]; exact Or.inr h
  have hS : va_S A s.heap s.heap [] := va_S.rf
  have kb_18 : ∀ n : Nat, ∀ (g : Sg) (x1 : Int32) (x2 : Int32) (H : Heap) (locs : List Loc) (ls : Array Slot), va_P (dC, dI) vwCl (qs_W h c g) H → va_D A (qs_W h c g) → va_S A s.heap H locs → lv_has ls 3 [(0, .ref (h 1)), (1, .int (x1)), (2, .int (x2))] → f_E_erase_18 n g x1 x2 = some ((), u0) → W p l e (headSpec (qs_ws y_E_erase b_E_erase 3 none) ({ frames := 1, cells := 0, slots := 0, locals := 21 } : Room)).room s m ([.ref (h 1), .int a1] : List Value).toArray below meth cd H locs 0 0 (MQ below (va_Qv (fun (u : Sg) => u = u0) (qs_at dC dI h c A) A) ([.ref (h 1), .int a1] : List Value).toArray s 0 0 A) (F0 m 18 ls []) := by
    intro n
    induction n with
    | zero =>
      intro g x1 x2 H locs ls hP hD hS hl hF
      exact nomatch (show (none : Option (Unit × Sg)) = some _ from hF)
    | succ n ih =>
      intro g x1 x2 H locs ls hP hD hS hl hF
      rw [f_E_erase_18] at hF
      refine lv_iload_n hx hb d_E_erase_18 rfl (lv_at hl 2 rfl) ?_
      refine lv_bipush (v := 16) hx hb d_E_erase_19 (by decide) ?_
      refine lv_icmp_ge (tgt := 42) hx hb d_E_erase_21 (by decide) (fun c6 => ?_) (fun c6 => ?_)
      · have hF := qs_pos c6 hF
        obtain ⟨h8, h9⟩ := qs_ret hF
        exact W.vret hx hb hr (fun t ht hW => ⟨⟨g, rfl, h9, by rw [ht]; exact hP, va_K.moved hW.alike hK, hD⟩, hS.F ht⟩) hS.2.2 d_E_erase_42
      · have hF := qs_neg c6 hF
        refine lv_aload_n hx hb d_E_erase_24 rfl (lv_at hl 0 rfl) ?_
        refine va_get (D := (dC, dI)) (ci := 0) (v := .ref (h 8)) (C := R_E) (T := T_E) (N := 2) hx hb hg in_E hown hK hP 1 rfl rfl 1 (by decide) (hg _ t_31) (fun _ h9 => h9) rfl d_E_erase_25 ?_
        refine lv_iload_n hx hb d_E_erase_28 rfl (lv_at hl 1 rfl) ?_
        refine lv_bipush (v := 16) hx hb d_E_erase_29 (by decide) ?_
        refine lv_imul hx hb d_E_erase_31 ?_
        refine lv_iload_n hx hb d_E_erase_32 rfl (lv_at hl 2 rfl) ?_
        refine lv_iadd hx hb d_E_erase_33 ?_
        refine lv_iconst (v := 0) hx hb d_E_erase_34 (by decide) ?_
        obtain ⟨c7, hF⟩ := qs_in_some hF
        refine va_iast hx hb hK hP hD hS 8 1 rfl rfl c7 d_E_erase_35 (fun H locs hP hD hS => ?_)
        obtain ⟨u8, hu8, hF⟩ := qs_st_some hF
        have hP : va_P (dC, dI) vwCl (qs_W h c u8) H := by rw [hu8]; exact hP
        have hD : va_D A (qs_W h c u8) := by rw [hu8]; exact hD
        clear hu8
        refine lv_iinc (v := x2 + 1) (lv' := [(2, .int (x2 + 1)), (0, .ref (h 1)), (1, .int (x1))]) hx hb d_E_erase_36 hl (k := 2) rfl (by rfl) (by decide) rfl (fun ls hl => ?_)
        refine lv_goto (tgt := 18) hx hb d_E_erase_39 (by decide) ?_
        exact ih u8 (x1) (x2 + 1) H locs ls hP hD hS (lv_sub hl [1, 2, 0] rfl) hF
  have hl := lv_entry ([.ref (h 1), .int a1] : List Value) (n := 3) (Nat.le_of_ble_eq_true rfl)
  rw [lg_entry_eq]
  generalize (lg_sl ([.ref (h 1), .int a1] : List Value) ++ List.replicate (3 - (lg_sl ([.ref (h 1), .int a1] : List Value)).length) Slot.unset).toArray = ls at hl ⊢
  have hl : lv_has ls 3 [(0, .ref (h 1)), (1, .int (a1))] := hl
  unfold f_E_erase at hF
  obtain ⟨H, hHe⟩ : ∃ H, H = s.heap := ⟨_, rfl⟩
  obtain ⟨locs, hLe⟩ : ∃ L : List Loc, L = [] := ⟨_, rfl⟩
  rw [← hHe] at hP ⊢
  rw [← hLe]
  have hS : va_S A s.heap H locs := by rw [hHe, hLe]; exact hS
  refine lv_aload_n hx hb d_E_erase_0 rfl (lv_at hl 0 rfl) ?_
  refine lv_iload_n hx hb d_E_erase_1 rfl (lv_at hl 1 rfl) ?_
  obtain ⟨r1, u2, hX, hF⟩ := qs_bn_some hF
  refine qs_ci (Wd := qs_W h c) (isC := [0, 1, 2, 3, 4, 5, 6, 7, 8, 9, 10, 11, 12, 13, 14, 15, 16]) (va_runV (own := "QuakeServer$Entities") (C := "QuakeServer$Entities") (As := [.int (a1)]) (rest := []) ⟨hx, hb, hml, hown, hg⟩ (c_E_isThere l dC dI h c H.size g (a1) r1 u2 hX) (cwV 1 hg (qs_gV t_358 t_188 t_189 t_2 t_190) rfl rfl rfl (by decide +kernel) ⟨Nat.le_of_ble_eq_true rfl, Nat.le_of_ble_eq_true rfl⟩) ⟨qs_blind, va_recv hK hP (ci := 0) (q0 := 1) rfl rfl, fun U hU hW => ⟨rfl, by rw [hU], by rw [hU]; exact hP, va_K.moved hW.alike hK, hD.weaken (fun _ _ _ _ => trivial), hNs.warm hW⟩⟩ rfl rfl hl.1 rfl (lv_room (Nat.le_of_ble_eq_true rfl)) d_E_erase_2 ⟨Nat.le_of_ble_eq_true rfl, Nat.le_of_ble_eq_true rfl⟩) rfl hP hD hS hA (fun H locs hP hD hS => ?_)
  refine lv_if_ne (tgt := 9) hx hb d_E_erase_5 (by decide) (fun c3 => ?_) (fun c3 => ?_)
  · have hF := qs_neg c3 hF
    refine lv_aload_n hx hb d_E_erase_9 rfl (lv_at hl 0 rfl) ?_
    refine va_get (D := (dC, dI)) (ci := 0) (v := .ref (h 7)) (C := R_E) (T := T_E) (N := 2) hx hb hg in_E hown hK hP 1 rfl rfl 0 (by decide) (hg _ t_30) (fun _ h9 => h9) rfl d_E_erase_10 ?_
    refine lv_iload_n hx hb d_E_erase_13 rfl (lv_at hl 1 rfl) ?_
    refine lv_iconst (v := 0) hx hb d_E_erase_14 (by decide) ?_
    obtain ⟨c4, hF⟩ := qs_in_some hF
    refine va_zast hx hb hK hP hD hS 7 0 rfl rfl c4 d_E_erase_15 (fun H locs hP hD hS => ?_)
    obtain ⟨u5, hu5, hF⟩ := qs_st_some hF
    have hP : va_P (dC, dI) vwCl (qs_W h c u5) H := by rw [hu5]; exact hP
    have hD : va_D A (qs_W h c u5) := by rw [hu5]; exact hD
    clear hu5
    refine lv_iconst (v := 0) hx hb d_E_erase_16 (by decide) ?_
    refine lv_istore_n (lv' := [(2, .int (0)), (0, .ref (h 1)), (1, .int (a1))]) hx hb d_E_erase_17 rfl hl (by decide) rfl (fun ls hl => ?_)
    exact kb_18 200 u5 (a1) (0) H locs ls hP hD hS (lv_sub hl [1, 2, 0] rfl) hF
  · have hF := qs_pos c3 hF
    obtain ⟨h8, h9⟩ := qs_ret hF
    exact W.vret hx hb hr (fun t ht hW => ⟨⟨u2, rfl, h9, by rw [ht]; exact hP, va_K.moved hW.alike hK, hD⟩, hS.F ht⟩) hS.2.2 d_E_erase_8

theorem d_E_firstBehind_0 : decode b_E_firstBehind 0 = .ok (.iconst 0, 1) := by decide +kernel
theorem d_E_firstBehind_1 : decode b_E_firstBehind 1 = .ok (.istore_n 2, 1) := by decide +kernel
theorem d_E_firstBehind_2 : decode b_E_firstBehind 2 = .ok (.iload_n 2, 1) := by decide +kernel
theorem d_E_firstBehind_3 : decode b_E_firstBehind 3 = .ok (.bipush 12, 2) := by decide +kernel
theorem d_E_firstBehind_5 : decode b_E_firstBehind 5 = .ok (.if_icmp .ge 25, 3) := by decide +kernel
theorem d_E_firstBehind_8 : decode b_E_firstBehind 8 = .ok (.iload_n 2, 1) := by decide +kernel
theorem d_E_firstBehind_9 : decode b_E_firstBehind 9 = .ok (.iload_n 1, 1) := by decide +kernel
theorem d_E_firstBehind_10 : decode b_E_firstBehind 10 = .ok (.if_icmp .le 14, 3) := by decide +kernel
theorem d_E_firstBehind_13 : decode b_E_firstBehind 13 = .ok (.aload_n 0, 1) := by decide +kernel
theorem d_E_firstBehind_14 : decode b_E_firstBehind 14 = .ok (.getfield 9, 3) := by decide +kernel
theorem d_E_firstBehind_17 : decode b_E_firstBehind 17 = .ok (.iload_n 2, 1) := by decide +kernel
theorem d_E_firstBehind_18 : decode b_E_firstBehind 18 = .ok (.baload, 1) := by decide +kernel
theorem d_E_firstBehind_19 : decode b_E_firstBehind 19 = .ok (.ifCond .eq 5, 3) := by decide +kernel
theorem d_E_firstBehind_22 : decode b_E_firstBehind 22 = .ok (.iload_n 2, 1) := by decide +kernel
theorem d_E_firstBehind_23 : decode b_E_firstBehind 23 = .ok (.ireturn, 1) := by decide +kernel
theorem d_E_firstBehind_24 : decode b_E_firstBehind 24 = .ok (.iinc 2 1, 3) := by decide +kernel
theorem d_E_firstBehind_27 : decode b_E_firstBehind 27 = .ok (.goto (-25), 3) := by decide +kernel
theorem d_E_firstBehind_30 : decode b_E_firstBehind 30 = .ok (.iconst (-1), 1) := by decide +kernel
theorem d_E_firstBehind_31 : decode b_E_firstBehind 31 = .ok (.ireturn, 1) := by decide +kernel
def f_E_firstBehind_24 (k2 : Sg → Int32 → Int32 → Option (Int32 × Sg)) (g : Sg) (x1 : Int32) (x2 : Int32) : Option (Int32 × Sg) := (k2 g (x1) (x2 + 1))
def f_E_firstBehind_2  : Nat → Sg → Int32 → Int32 → Option (Int32 × Sg)
  | 0, _, _, _ => none
  | n + 1, g, x1, x2 => (if 12 ≤ x2 then (some ((-1), g)) else (if x2 ≤ x1 then (f_E_firstBehind_24 (fun g x1 x2 => f_E_firstBehind_2  n g x1 x2) g (x1) (x2)) else (qs_in (x2) 12 (if (g 7 x2.toNatClampNeg) = 0 then (f_E_firstBehind_24 (fun g x1 x2 => f_E_firstBehind_2  n g x1 x2) g (x1) (x2)) else (some (x2, g))))))
def f_E_firstBehind (g : Sg) (a1 : Int32) : Option (Int32 × Sg) := (f_E_firstBehind_2 200 g (a1) (0))
set_option maxHeartbeats 4000000 in
set_option maxRecDepth 100000 in
theorem c_E_firstBehind (l : Launch) (dC : Nat → ClassId) (dI : Nat → Nat → Nat) (h : Nat → Nat) (c : Nat → ClassId) (sz : Nat) (g : Sg) (a1 : Int32) (r0 : Int32) (u0 : Sg) (hF : f_E_firstBehind g a1 = some (r0, u0)) : Met l y_E_firstBehind (qs_ws y_E_firstBehind b_E_firstBehind 3 (some .int)) ({ frames := 0, cells := 0, slots := 0, locals := 0 } : Room) (va_Pc ([.ref (h 1), .int a1] : List Value) (fun U => U.heap.size = sz ∧ va_P (dC, dI) vwCl (qs_W h c g) U.heap ∧ va_K (dC, dI) vwCl (qs_T c) U ∧ va_D (fun _ => True) (qs_W h c g) ∧ qs_N U)) (va_Qi (fun (r : Int32) (u : Sg) => r = r0 ∧ u = u0) (qs_at dC dI h c (va_A (qs_W h c g) sz)) (va_A (qs_W h c g) sz)) 0 0 (va_A (qs_W h c g) sz) := by
  refine Met.ofW (cc := b_E_firstBehind) (maxL := 3) (ret := (some .int)) (by decide +kernel) rfl ?_
  intro p e s m args below meth cd s₁ B hml hv
  obtain ⟨rfl, hsz, hP, hK, hD0, hNs⟩ := hv
  have hx := B.exec
  have hb := B.bytes
  have hr := B.returns
  have hts := atoms_spec (ws := (qs_ws y_E_firstBehind b_E_firstBehind 3 (some .int))) B.pre
  have hg : ∀ w ∈ qs_gt, w.before _ s = true := fun w h => hts w (List.mem_cons_of_mem _ h)
  have hown : s.vm.findClass R_E = some m.cls := findClass_of_methodNamed B.named
  have hlocks := B.notSynchronized
  subst hsz
  have hD := hD0.self (sz := s.heap.size)
  generalize hAe : va_A (qs_W h c g) s.heap.size = A at hD ⊢
  have hA : ∀ q : Nat, s.heap.size ≤ q → A q := fun q h => by rw [← hAe]; exact Or.inr h
  have hS : va_S A s.heap s.heap [] := va_S.rf
  have kb_24 : ∀ (k2 : Sg → Int32 → Int32 → Option (Int32 × Sg)), (∀ (g : Sg) (x1 : Int32) (x2 : Int32) (H : Heap) (locs : List Loc) (ls : Array Slot), va_P (dC, dI) vwCl (qs_W h c g) H → va_D A (qs_W h c g) → va_S A s.heap H locs → lv_has ls 3 [(0, .ref (h 1)), (1, .int (x1)), (2, .int (x2))] → k2 g x1 x2 = some (r0, u0) → W p l e (headSpec (qs_ws y_E_firstBehind b_E_firstBehind 3 (some .int)) ({ frames := 0, cells := 0, slots := 0, locals := 0 } : Room)).room s m ([.ref (h 1), .int a1] : List Value).toArray below meth cd H locs 0 0 (MQ below (va_Qi (fun (r : Int32) (u : Sg) => r = r0 ∧ u = u0) (qs_at dC dI h c A) A) ([.ref (h 1), .int a1] : List Value).toArray s 0 0 A) (F0 m 2 ls [])) → ∀ (g : Sg) (x1 : Int32) (x2 : Int32) (H : Heap) (locs : List Loc) (ls : Array Slot), va_P (dC, dI) vwCl (qs_W h c g) H → va_D A (qs_W h c g) → va_S A s.heap H locs → lv_has ls 3 [(0, .ref (h 1)), (1, .int (x1)), (2, .int (x2))] → f_E_firstBehind_24 k2  g x1 x2 = some (r0, u0) → W p l e (headSpec (qs_ws y_E_firstBehind b_E_firstBehind 3 (some .int)) ({ frames := 0, cells := 0, slots := 0, locals := 0 } : Room)).room s m ([.ref (h 1), .int a1] : List Value).toArray below meth cd H locs 0 0 (MQ below (va_Qi (fun (r : Int32) (u : Sg) => r = r0 ∧ u = u0) (qs_at dC dI h c A) A) ([.ref (h 1), .int a1] : List Value).toArray s 0 0 A) (F0 m 24 ls []) := by
    intro k2 hk2
    intro g x1 x2 H locs ls hP hD hS hl hF
    unfold f_E_firstBehind_24 at hF
    refine lv_iinc (v := x2 + 1) (lv' := [(2, .int (x2 + 1)), (0, .ref (h 1)), (1, .int (x1))]) hx hb d_E_firstBehind_24 hl (k := 2) rfl (by rfl) (by decide) rfl (fun ls hl => ?_)
    refine lv_goto (tgt := 2) hx hb d_E_firstBehind_27 (by decide) ?_
    exact hk2 g (x1) (x2 + 1) H locs ls hP hD hS (lv_sub hl [1, 2, 0] rfl) hF
  have kb_2 : ∀ n : Nat, ∀ (g : Sg) (x1 : Int32) (x2 : Int32) (H : Heap) (locs : List Loc) (ls : Array Slot), va_P (dC, dI) vwCl (qs_W h c g) H → va_D A (qs_W h c g) → va_S A s.heap H locs → lv_has ls 3 [(0, .ref (h 1)), (1, .int (x1)), (2, .int (x2))] → f_E_firstBehind_2 n g x1 x2 = some (r0, u0) → W p l e (headSpec (qs_ws y_E_firstBehind b_E_firstBehind 3 (some .int)) ({ frames := 0, cells := 0, slots := 0, locals := 0 } : Room)).room s m ([.ref (h 1), .int a1] : List Value).toArray below meth cd H locs 0 0 (MQ below (va_Qi (fun (r : Int32) (u : Sg) => r = r0 ∧ u = u0) (qs_at dC dI h c A) A) ([.ref (h 1), .int a1] : List Value).toArray s 0 0 A) (F0 m 2 ls []) := by
    intro n
    induction n with
    | zero =>
      intro g x1 x2 H locs ls hP hD hS hl hF
      exact nomatch (show (none : Option (Int32 × Sg)) = some _ from hF)
    | succ n ih =>
      intro g x1 x2 H locs ls hP hD hS hl hF
      rw [f_E_firstBehind_2] at hF
      refine lv_iload_n hx hb d_E_firstBehind_2 rfl (lv_at hl 2 rfl) ?_
      refine lv_bipush (v := 12) hx hb d_E_firstBehind_3 (by decide) ?_
      refine lv_icmp_ge (tgt := 30) hx hb d_E_firstBehind_5 (by decide) (fun c1 => ?_) (fun c1 => ?_)
      · have hF := qs_pos c1 hF
        refine lv_iconst (v := (-1)) hx hb d_E_firstBehind_30 (by decide) ?_
        obtain ⟨h8, h9⟩ := qs_ret hF
        exact W.iret (v := (-1)) hx hb hr (fun t ht hW => ⟨⟨(-1), g, rfl, ⟨h8, h9⟩, by rw [ht]; exact hP, va_K.moved hW.alike hK, hD⟩, hS.F ht⟩) hS.2.2 d_E_firstBehind_31
      · have hF := qs_neg c1 hF
        refine lv_iload_n hx hb d_E_firstBehind_8 rfl (lv_at hl 2 rfl) ?_
        refine lv_iload_n hx hb d_E_firstBehind_9 rfl (lv_at hl 1 rfl) ?_
        refine lv_icmp_le (tgt := 24) hx hb d_E_firstBehind_10 (by decide) (fun c2 => ?_) (fun c2 => ?_)
        · have hF := qs_pos c2 hF
          exact kb_24 _ ih g (x1) (x2) H locs ls hP hD hS (lv_sub hl [0, 1, 2] rfl) hF
        · have hF := qs_neg c2 hF
          refine lv_aload_n hx hb d_E_firstBehind_13 rfl (lv_at hl 0 rfl) ?_
          refine va_get (D := (dC, dI)) (ci := 0) (v := .ref (h 7)) (C := R_E) (T := T_E) (N := 2) hx hb hg in_E hown hK hP 1 rfl rfl 0 (by decide) (hg _ t_30) (fun _ h9 => h9) rfl d_E_firstBehind_14 ?_
          refine lv_iload_n hx hb d_E_firstBehind_17 rfl (lv_at hl 2 rfl) ?_
          obtain ⟨c3, hF⟩ := qs_in_some hF
          refine va_zald hx hb hK hP 7 0 rfl rfl c3 d_E_firstBehind_18 ?_
          refine lv_if_eq (tgt := 24) hx hb d_E_firstBehind_19 (by decide) (fun c4 => ?_) (fun c4 => ?_)
          · have hF := qs_pos c4 hF
            exact kb_24 _ ih g (x1) (x2) H locs ls hP hD hS (lv_sub hl [0, 1, 2] rfl) hF
          · have hF := qs_neg c4 hF
            refine lv_iload_n hx hb d_E_firstBehind_22 rfl (lv_at hl 2 rfl) ?_
            obtain ⟨h8, h9⟩ := qs_ret hF
            exact W.iret (v := x2) hx hb hr (fun t ht hW => ⟨⟨x2, g, rfl, ⟨h8, h9⟩, by rw [ht]; exact hP, va_K.moved hW.alike hK, hD⟩, hS.F ht⟩) hS.2.2 d_E_firstBehind_23
  have hl := lv_entry ([.ref (h 1), .int a1] : List Value) (n := 3) (Nat.le_of_ble_eq_true rfl)
  rw [lg_entry_eq]
  generalize (lg_sl ([.ref (h 1), .int a1] : List Value) ++ List.replicate (3 - (lg_sl ([.ref (h 1), .int a1] : List Value)).length) Slot.unset).toArray = ls at hl ⊢
  have hl : lv_has ls 3 [(0, .ref (h 1)), (1, .int (a1))] := hl
  unfold f_E_firstBehind at hF
  obtain ⟨H, hHe⟩ : ∃ H, H = s.heap := ⟨_, rfl⟩
  obtain ⟨locs, hLe⟩ : ∃ L : List Loc, L = [] := ⟨_, rfl⟩
  rw [← hHe] at hP ⊢
  rw [← hLe]
  have hS : va_S A s.heap H locs := by rw [hHe, hLe]; exact hS
  refine lv_iconst (v := 0) hx hb d_E_firstBehind_0 (by decide) ?_
  refine lv_istore_n (lv' := [(2, .int (0)), (0, .ref (h 1)), (1, .int (a1))]) hx hb d_E_firstBehind_1 rfl hl (by decide) rfl (fun ls hl => ?_)
  exact kb_2 200 g (a1) (0) H locs ls hP hD hS (lv_sub hl [1, 2, 0] rfl) hF

theorem d_E_wholeField_0 : decode b_E_wholeField 0 = .ok (.aload_n 0, 1) := by decide +kernel
theorem d_E_wholeField_1 : decode b_E_wholeField 1 = .ok (.iload_n 1, 1) := by decide +kernel
theorem d_E_wholeField_2 : decode b_E_wholeField 2 = .ok (.iload_n 2, 1) := by decide +kernel
theorem d_E_wholeField_3 : decode b_E_wholeField 3 = .ok (.invokevirtual 23, 3) := by decide +kernel
theorem d_E_wholeField_6 : decode b_E_wholeField 6 = .ok (.invokestatic 27, 3) := by decide +kernel
theorem d_E_wholeField_9 : decode b_E_wholeField 9 = .ok (.ireturn, 1) := by decide +kernel
def f_E_wholeField (g : Sg) (a1 : Int32) (a2 : Int32) : Option (Int32 × Sg) := (qs_bn (f_E_field g (a1) (a2)) fun r1 u2 => (qs_pb (f_Q_wholeOf (r1)) fun r3 => (some (r3, u2))))
set_option maxHeartbeats 4000000 in
set_option maxRecDepth 100000 in
theorem c_E_wholeField (l : Launch) (dC : Nat → ClassId) (dI : Nat → Nat → Nat) (h : Nat → Nat) (c : Nat → ClassId) (sz : Nat) (g : Sg) (a1 : Int32) (a2 : Int32) (r0 : Int32) (u0 : Sg) (hF : f_E_wholeField g a1 a2 = some (r0, u0)) : Met l y_E_wholeField (qs_ws y_E_wholeField b_E_wholeField 3 (some .int)) ({ frames := 1, cells := 0, slots := 0, locals := 22 } : Room) (va_Pc ([.ref (h 1), .int a1, .int a2] : List Value) (fun U => U.heap.size = sz ∧ va_P (dC, dI) vwCl (qs_W h c g) U.heap ∧ va_K (dC, dI) vwCl (qs_T c) U ∧ va_D (fun _ => True) (qs_W h c g) ∧ qs_N U)) (va_Qi (fun (r : Int32) (u : Sg) => r = r0 ∧ u = u0) (qs_at dC dI h c (va_A (qs_W h c g) sz)) (va_A (qs_W h c g) sz)) 0 0 (va_A (qs_W h c g) sz) := by
  refine Met.ofW (cc := b_E_wholeField) (maxL := 3) (ret := (some .int)) (by decide +kernel) rfl ?_
  intro p e s m args below meth cd s₁ B hml hv
  obtain ⟨rfl, hsz, hP, hK, hD0, hNs⟩ := hv
  have hx := B.exec
  have hb := B.bytes
  have hr := B.returns
  have hts := atoms_spec (ws := (qs_ws y_E_wholeField b_E_wholeField 3 (some .int))) B.pre
  have hg : ∀ w ∈ qs_gt, w.before _ s = true := fun w h => hts w (List.mem_cons_of_mem _ h)
  have hown : s.vm.findClass R_E = some m.cls := findClass_of_methodNamed B.named
  have hlocks := B.notSynchronized
  subst hsz
  have hD := hD0.self (sz := s.heap.size)
  generalize hAe : va_A (qs_W h c g) s.heap.size = A at hD ⊢
  have hA : ∀ q : Nat, s.heap.size ≤ q → A q := fun q h => by rw [← hAe]; exact Or.inr h
  have hS : va_S A s.heap s.heap [] := va_S.rf
  have hl := lv_entry ([.ref (h 1), .int a1, .int a2] : List Value) (n := 3) (Nat.le_of_ble_eq_true rfl)
  rw [lg_entry_eq]
  generalize (lg_sl ([.ref (h 1), .int a1, .int a2] : List Value) ++ List.replicate (3 - (lg_sl ([.ref (h 1), .int a1, .int a2] : List Value)).length) Slot.unset).toArray = ls at hl ⊢
  have hl : lv_has ls 3 [(0, .ref (h 1)), (1, .int (a1)), (2, .int (a2))] := hl
  unfold f_E_wholeField at hF
  obtain ⟨H, hHe⟩ : ∃ H, H = s.heap := ⟨_, rfl⟩
  obtain ⟨locs, hLe⟩ : ∃ L : List Loc, L = [] := ⟨_, rfl⟩
  rw [← hHe] at hP ⊢
  rw [← hLe]
  have hS : va_S A s.heap H locs := by rw [hHe, hLe]; exact hS
  refine lv_aload_n hx hb d_E_wholeField_0 rfl (lv_at hl 0 rfl) ?_
  refine lv_iload_n hx hb d_E_wholeField_1 rfl (lv_at hl 1 rfl) ?_
  refine lv_iload_n hx hb d_E_wholeField_2 rfl (lv_at hl 2 rfl) ?_
  obtain ⟨r1, u2, hX, hF⟩ := qs_bn_some hF
  refine qs_ci (Wd := qs_W h c) (isC := [0, 1, 2, 3, 4, 5, 6, 7, 8, 9, 10, 11, 12, 13, 14, 15, 16]) (va_runV (own := "QuakeServer$Entities") (C := "QuakeServer$Entities") (As := [.int (a1), .int (a2)]) (rest := []) ⟨hx, hb, hml, hown, hg⟩ (c_E_field l dC dI h c H.size g (a1) (a2) r1 u2 hX) (cwV 2 hg (qs_gV t_512 t_192 t_193 t_2 t_194) rfl rfl rfl (by decide +kernel) ⟨Nat.le_of_ble_eq_true rfl, Nat.le_of_ble_eq_true rfl⟩) ⟨qs_blind, va_recv hK hP (ci := 0) (q0 := 1) rfl rfl, fun U hU hW => ⟨rfl, by rw [hU], by rw [hU]; exact hP, va_K.moved hW.alike hK, hD.weaken (fun _ _ _ _ => trivial), hNs.warm hW⟩⟩ rfl rfl hl.1 rfl (lv_room (Nat.le_of_ble_eq_true rfl)) d_E_wholeField_3 ⟨Nat.le_of_ble_eq_true rfl, Nat.le_of_ble_eq_true rfl⟩) rfl hP hD hS hA (fun H locs hP hD hS => ?_)
  obtain ⟨r3, hX, hF⟩ := qs_pb_some hF
  refine qs_psi (va_runSN (own := "QuakeServer$Entities") (As := [.int (r1)]) (rest := []) ⟨hx, hb, hml, hown, hg⟩ (c_Q_wholeOf l H.size (r1) r3 hX) ⟨va_cnB (own := "QuakeServer$Entities") (index := 27) (host := "QuakeServer") 1 hg (qs_gc t_458) rfl rfl rfl (nM_7 hNs) (hg _ t_1) (by decide +kernel) ⟨Nat.le_of_ble_eq_true rfl, Nat.le_of_ble_eq_true rfl⟩, hg _ t_457, trivial⟩ ⟨qs_blind0, fun U hU hW => ⟨rfl, by rw [hU], hNs.warm hW⟩⟩ rfl rfl hl.1 rfl (lv_room (Nat.le_of_ble_eq_true rfl)) d_E_wholeField_6 ⟨Nat.le_of_ble_eq_true rfl, Nat.le_of_ble_eq_true rfl⟩) hP hD hS hA (fun H locs hP hS => ?_)
  obtain ⟨h8, h9⟩ := qs_ret hF
  exact W.iret (v := r3) hx hb hr (fun t ht hW => ⟨⟨r3, u2, rfl, ⟨h8, h9⟩, by rw [ht]; exact hP, va_K.moved hW.alike hK, hD⟩, hS.F ht⟩) hS.2.2 d_E_wholeField_9

theorem d_E_put_0 : decode b_E_put 0 = .ok (.aload_n 0, 1) := by decide +kernel
theorem d_E_put_1 : decode b_E_put 1 = .ok (.iload_n 1, 1) := by decide +kernel
theorem d_E_put_2 : decode b_E_put 2 = .ok (.invokevirtual 19, 3) := by decide +kernel
theorem d_E_put_5 : decode b_E_put 5 = .ok (.ifCond .eq 15, 3) := by decide +kernel
theorem d_E_put_8 : decode b_E_put 8 = .ok (.aload_n 0, 1) := by decide +kernel
theorem d_E_put_9 : decode b_E_put 9 = .ok (.getfield 15, 3) := by decide +kernel
theorem d_E_put_12 : decode b_E_put 12 = .ok (.iload_n 1, 1) := by decide +kernel
theorem d_E_put_13 : decode b_E_put 13 = .ok (.bipush 16, 2) := by decide +kernel
theorem d_E_put_15 : decode b_E_put 15 = .ok (.imul, 1) := by decide +kernel
theorem d_E_put_16 : decode b_E_put 16 = .ok (.iload_n 2, 1) := by decide +kernel
theorem d_E_put_17 : decode b_E_put 17 = .ok (.iadd, 1) := by decide +kernel
theorem d_E_put_18 : decode b_E_put 18 = .ok (.iload_n 3, 1) := by decide +kernel
theorem d_E_put_19 : decode b_E_put 19 = .ok (.iastore, 1) := by decide +kernel
theorem d_E_put_20 : decode b_E_put 20 = .ok (.return_, 1) := by decide +kernel
def f_E_put (g : Sg) (a1 : Int32) (a2 : Int32) (a3 : Int32) : Option (Unit × Sg) := (qs_bn (f_E_isThere g (a1)) fun r1 u2 => (if r1 = 0 then (some ((), u2)) else (qs_in ((a1 * 16) + a2) 192 (qs_st (qs_a u2 8 ((a1 * 16) + a2).toNatClampNeg (a3)) fun u5 => (some ((), u5))))))
set_option maxHeartbeats 4000000 in
set_option maxRecDepth 100000 in
theorem c_E_put (l : Launch) (dC : Nat → ClassId) (dI : Nat → Nat → Nat) (h : Nat → Nat) (c : Nat → ClassId) (sz : Nat) (g : Sg) (a1 : Int32) (a2 : Int32) (a3 : Int32) (u0 : Sg) (hF : f_E_put g a1 a2 a3 = some ((), u0)) : Met l y_E_put (qs_ws y_E_put b_E_put 4 none) ({ frames := 1, cells := 0, slots := 0, locals := 21 } : Room) (va_Pc ([.ref (h 1), .int a1, .int a2, .int a3] : List Value) (fun U => U.heap.size = sz ∧ va_P (dC, dI) vwCl (qs_W h c g) U.heap ∧ va_K (dC, dI) vwCl (qs_T c) U ∧ va_D (fun _ => True) (qs_W h c g) ∧ qs_N U)) (va_Qv (fun (u : Sg) => u = u0) (qs_at dC dI h c (va_A (qs_W h c g) sz)) (va_A (qs_W h c g) sz)) 0 0 (va_A (qs_W h c g) sz) := by
  refine Met.ofW (cc := b_E_put) (maxL := 4) (ret := none) (by decide +kernel) rfl ?_
  intro p e s m args below meth cd s₁ B hml hv
  obtain ⟨rfl, hsz, hP, hK, hD0, hNs⟩ := hv
  have hx := B.exec
  have hb := B.bytes
  have hr := B.returns
  have hts := atoms_spec (ws := (qs_ws y_E_put b_E_put 4 none)) B.pre
  have hg : ∀ w ∈ qs_gt, w.before _ s = true := fun w h => hts w (List.mem_cons_of_mem _ h)
  have hown : s.vm.findClass R_E = some m.cls := findClass_of_methodNamed B.named
  have hlocks := B.notSynchronized
  subst hsz
  have hD := hD0.self (sz := s.heap.size)
  generalize hAe : va_A (qs_W h c g) s.heap.size = A at hD ⊢
  have hA : ∀ q : Nat, s.heap.size ≤ q → A q := fun q h => by rw [← hAe]; exact Or.inr h
  have hS : va_S A s.heap s.heap [] := va_S.rf
  have hl := lv_entry ([.ref (h 1), .int a1, .int a2, .int a3] : List Value) (n := 4) (Nat.le_of_ble_eq_true rfl)
  rw [lg_entry_eq]
  generalize (lg_sl ([.ref (h 1), .int a1, .int a2, .int a3] : List Value) ++ List.replicate (4 - (lg_sl ([.ref (h 1), .int a1, .int a2, .int a3] : List Value)).length) Slot.unset).toArray = ls at hl ⊢
  have hl : lv_has ls 4 [(0, .ref (h 1)), (1, .int (a1)), (2, .int (a2)), (3, .int (a3))] := hl
  unfold f_E_put at hF
  obtain ⟨H, hHe⟩ : ∃ H, H = s.heap := ⟨_, rfl⟩
  obtain ⟨locs, hLe⟩ : ∃ L : List Loc, L = [] := ⟨_, rfl⟩
  rw [← hHe] at hP ⊢
  rw [← hLe]
  have hS : va_S A s.heap H locs := by rw [hHe, hLe]; exact hS
  refine lv_aload_n hx hb d_E_put_0 rfl (lv_at hl 0 rfl) ?_
  refine lv_iload_n hx hb d_E_put_1 rfl (lv_at hl 1 rfl) ?_
  obtain ⟨r1, u2, hX, hF⟩ := qs_bn_some hF
  refine qs_ci (Wd := qs_W h c) (isC := [0, 1, 2, 3, 4, 5, 6, 7, 8, 9, 10, 11, 12, 13, 14, 15, 16]) (va_runV (own := "QuakeServer$Entities") (C := "QuakeServer$Entities") (As := [.int (a1)]) (rest := []) ⟨hx, hb, hml, hown, hg⟩ (c_E_isThere l dC dI h c H.size g (a1) r1 u2 hX) (cwV 1 hg (qs_gV t_358 t_188 t_189 t_2 t_190) rfl rfl rfl (by decide +kernel) ⟨Nat.le_of_ble_eq_true rfl, Nat.le_of_ble_eq_true rfl⟩) ⟨qs_blind, va_recv hK hP (ci := 0) (q0 := 1) rfl rfl, fun U hU hW => ⟨rfl, by rw [hU], by rw [hU]; exact hP, va_K.moved hW.alike hK, hD.weaken (fun _ _ _ _ => trivial), hNs.warm hW⟩⟩ rfl rfl hl.1 rfl (lv_room (Nat.le_of_ble_eq_true rfl)) d_E_put_2 ⟨Nat.le_of_ble_eq_true rfl, Nat.le_of_ble_eq_true rfl⟩) rfl hP hD hS hA (fun H locs hP hD hS => ?_)
  refine lv_if_eq (tgt := 20) hx hb d_E_put_5 (by decide) (fun c3 => ?_) (fun c3 => ?_)
  · have hF := qs_pos c3 hF
    obtain ⟨h8, h9⟩ := qs_ret hF
    exact W.vret hx hb hr (fun t ht hW => ⟨⟨u2, rfl, h9, by rw [ht]; exact hP, va_K.moved hW.alike hK, hD⟩, hS.F ht⟩) hS.2.2 d_E_put_20
  · have hF := qs_neg c3 hF
    refine lv_aload_n hx hb d_E_put_8 rfl (lv_at hl 0 rfl) ?_
    refine va_get (D := (dC, dI)) (ci := 0) (v := .ref (h 8)) (C := R_E) (T := T_E) (N := 2) hx hb hg in_E hown hK hP 1 rfl rfl 1 (by decide) (hg _ t_31) (fun _ h9 => h9) rfl d_E_put_9 ?_
    refine lv_iload_n hx hb d_E_put_12 rfl (lv_at hl 1 rfl) ?_
    refine lv_bipush (v := 16) hx hb d_E_put_13 (by decide) ?_
    refine lv_imul hx hb d_E_put_15 ?_
    refine lv_iload_n hx hb d_E_put_16 rfl (lv_at hl 2 rfl) ?_
    refine lv_iadd hx hb d_E_put_17 ?_
    refine lv_iload_n hx hb d_E_put_18 rfl (lv_at hl 3 rfl) ?_
    obtain ⟨c4, hF⟩ := qs_in_some hF
    refine va_iast hx hb hK hP hD hS 8 1 rfl rfl c4 d_E_put_19 (fun H locs hP hD hS => ?_)
    obtain ⟨u5, hu5, hF⟩ := qs_st_some hF
    have hP : va_P (dC, dI) vwCl (qs_W h c u5) H := by rw [hu5]; exact hP
    have hD : va_D A (qs_W h c u5) := by rw [hu5]; exact hD
    clear hu5
    obtain ⟨h8, h9⟩ := qs_ret hF
    exact W.vret hx hb hr (fun t ht hW => ⟨⟨u5, rfl, h9, by rw [ht]; exact hP, va_K.moved hW.alike hK, hD⟩, hS.F ht⟩) hS.2.2 d_E_put_20

theorem d_E_sizeUsed_0 : decode b_E_sizeUsed 0 = .ok (.aload_n 0, 1) := by decide +kernel
theorem d_E_sizeUsed_1 : decode b_E_sizeUsed 1 = .ok (.iload_n 1, 1) := by decide +kernel
theorem d_E_sizeUsed_2 : decode b_E_sizeUsed 2 = .ok (.iconst 4, 1) := by decide +kernel
theorem d_E_sizeUsed_3 : decode b_E_sizeUsed 3 = .ok (.invokevirtual 23, 3) := by decide +kernel
theorem d_E_sizeUsed_6 : decode b_E_sizeUsed 6 = .ok (.istore_n 2, 1) := by decide +kernel
theorem d_E_sizeUsed_7 : decode b_E_sizeUsed 7 = .ok (.bipush 8, 2) := by decide +kernel
theorem d_E_sizeUsed_9 : decode b_E_sizeUsed 9 = .ok (.sipush 256, 3) := by decide +kernel
theorem d_E_sizeUsed_12 : decode b_E_sizeUsed 12 = .ok (.iload_n 2, 1) := by decide +kernel
theorem d_E_sizeUsed_13 : decode b_E_sizeUsed 13 = .ok (.invokestatic 34, 3) := by decide +kernel
theorem d_E_sizeUsed_16 : decode b_E_sizeUsed 16 = .ok (.invokestatic 39, 3) := by decide +kernel
theorem d_E_sizeUsed_19 : decode b_E_sizeUsed 19 = .ok (.ireturn, 1) := by decide +kernel
def f_E_sizeUsed (g : Sg) (a1 : Int32) : Option (Int32 × Sg) := (qs_bn (f_E_field g (a1) (4)) fun r1 u2 => (some (if 8 < (if r1 < 256 then r1 else 256) then (if r1 < 256 then r1 else 256) else 8, u2)))
set_option maxHeartbeats 4000000 in
set_option maxRecDepth 100000 in
theorem c_E_sizeUsed (l : Launch) (dC : Nat → ClassId) (dI : Nat → Nat → Nat) (h : Nat → Nat) (c : Nat → ClassId) (sz : Nat) (g : Sg) (a1 : Int32) (r0 : Int32) (u0 : Sg) (hF : f_E_sizeUsed g a1 = some (r0, u0)) : Met l y_E_sizeUsed (qs_ws y_E_sizeUsed b_E_sizeUsed 3 (some .int)) ({ frames := 1, cells := 0, slots := 0, locals := 22 } : Room) (va_Pc ([.ref (h 1), .int a1] : List Value) (fun U => U.heap.size = sz ∧ va_P (dC, dI) vwCl (qs_W h c g) U.heap ∧ va_K (dC, dI) vwCl (qs_T c) U ∧ va_D (fun _ => True) (qs_W h c g) ∧ qs_N U)) (va_Qi (fun (r : Int32) (u : Sg) => r = r0 ∧ u = u0) (qs_at dC dI h c (va_A (qs_W h c g) sz)) (va_A (qs_W h c g) sz)) 0 0 (va_A (qs_W h c g) sz) := by
  refine Met.ofW (cc := b_E_sizeUsed) (maxL := 3) (ret := (some .int)) (by decide +kernel) rfl ?_
  intro p e s m args below meth cd s₁ B hml hv
  obtain ⟨rfl, hsz, hP, hK, hD0, hNs⟩ := hv
  have hx := B.exec
  have hb := B.bytes
  have hr := B.returns
  have hts := atoms_spec (ws := (qs_ws y_E_sizeUsed b_E_sizeUsed 3 (some .int))) B.pre
  have hg : ∀ w ∈ qs_gt, w.before _ s = true := fun w h => hts w (List.mem_cons_of_mem _ h)
  have hown : s.vm.findClass R_E = some m.cls := findClass_of_methodNamed B.named
  have hlocks := B.notSynchronized
  subst hsz
  have hD := hD0.self (sz := s.heap.size)
  generalize hAe : va_A (qs_W h c g) s.heap.size = A at hD ⊢
  have hA : ∀ q : Nat, s.heap.size ≤ q → A q := fun q h => by rw [← hAe]; exact Or.inr h
  have hS : va_S A s.heap s.heap [] := va_S.rf
  have hl := lv_entry ([.ref (h 1), .int a1] : List Value) (n := 3) (Nat.le_of_ble_eq_true rfl)
  rw [lg_entry_eq]
  generalize (lg_sl ([.ref (h 1), .int a1] : List Value) ++ List.replicate (3 - (lg_sl ([.ref (h 1), .int a1] : List Value)).length) Slot.unset).toArray = ls at hl ⊢
  have hl : lv_has ls 3 [(0, .ref (h 1)), (1, .int (a1))] := hl
  unfold f_E_sizeUsed at hF
  obtain ⟨H, hHe⟩ : ∃ H, H = s.heap := ⟨_, rfl⟩
  obtain ⟨locs, hLe⟩ : ∃ L : List Loc, L = [] := ⟨_, rfl⟩
  rw [← hHe] at hP ⊢
  rw [← hLe]
  have hS : va_S A s.heap H locs := by rw [hHe, hLe]; exact hS
  refine lv_aload_n hx hb d_E_sizeUsed_0 rfl (lv_at hl 0 rfl) ?_
  refine lv_iload_n hx hb d_E_sizeUsed_1 rfl (lv_at hl 1 rfl) ?_
  refine lv_iconst (v := 4) hx hb d_E_sizeUsed_2 (by decide) ?_
  obtain ⟨r1, u2, hX, hF⟩ := qs_bn_some hF
  refine qs_ci (Wd := qs_W h c) (isC := [0, 1, 2, 3, 4, 5, 6, 7, 8, 9, 10, 11, 12, 13, 14, 15, 16]) (va_runV (own := "QuakeServer$Entities") (C := "QuakeServer$Entities") (As := [.int (a1), .int (4)]) (rest := []) ⟨hx, hb, hml, hown, hg⟩ (c_E_field l dC dI h c H.size g (a1) (4) r1 u2 hX) (cwV 2 hg (qs_gV t_512 t_192 t_193 t_2 t_194) rfl rfl rfl (by decide +kernel) ⟨Nat.le_of_ble_eq_true rfl, Nat.le_of_ble_eq_true rfl⟩) ⟨qs_blind, va_recv hK hP (ci := 0) (q0 := 1) rfl rfl, fun U hU hW => ⟨rfl, by rw [hU], by rw [hU]; exact hP, va_K.moved hW.alike hK, hD.weaken (fun _ _ _ _ => trivial), hNs.warm hW⟩⟩ rfl rfl hl.1 rfl (lv_room (Nat.le_of_ble_eq_true rfl)) d_E_sizeUsed_3 ⟨Nat.le_of_ble_eq_true rfl, Nat.le_of_ble_eq_true rfl⟩) rfl hP hD hS hA (fun H locs hP hD hS => ?_)
  refine lv_istore_n (lv' := [(2, .int (r1)), (0, .ref (h 1)), (1, .int (a1))]) hx hb d_E_sizeUsed_6 rfl hl (by decide) rfl (fun ls hl => ?_)
  refine lv_bipush (v := 8) hx hb d_E_sizeUsed_7 (by decide) ?_
  refine lv_sipush (v := 256) hx hb d_E_sizeUsed_9 (by decide) ?_
  refine lv_iload_n hx hb d_E_sizeUsed_12 rfl (lv_at hl 0 rfl) ?_
  refine va_mmin hx hb (hml.trans hl.1.symm) hown (hg _ t_543) (hg _ t_544) (hg _ t_15) (hg _ t_545) (Nat.le_of_ble_eq_true rfl) (Nat.le_of_ble_eq_true rfl) (Nat.zero_le _) (Nat.zero_le _) d_E_sizeUsed_13 ?_
  refine va_mmax hx hb (hml.trans hl.1.symm) hown (hg _ t_546) (hg _ t_547) (hg _ t_15) (hg _ t_548) (Nat.le_of_ble_eq_true rfl) (Nat.le_of_ble_eq_true rfl) (Nat.zero_le _) (Nat.zero_le _) d_E_sizeUsed_16 ?_
  obtain ⟨h8, h9⟩ := qs_ret hF
  exact W.iret (v := if 8 < (if r1 < 256 then r1 else 256) then (if r1 < 256 then r1 else 256) else 8) hx hb hr (fun t ht hW => ⟨⟨(if 8 < (if r1 < 256 then r1 else 256) then (if r1 < 256 then r1 else 256) else 8), u2, rfl, ⟨h8, h9⟩, by rw [ht]; exact hP, va_K.moved hW.alike hK, hD⟩, hS.F ht⟩) hS.2.2 d_E_sizeUsed_19

theorem d_E_low_0 : decode b_E_low 0 = .ok (.aload_n 0, 1) := by decide +kernel
theorem d_E_low_1 : decode b_E_low 1 = .ok (.iload_n 1, 1) := by decide +kernel
theorem d_E_low_2 : decode b_E_low 2 = .ok (.iload_n 2, 1) := by decide +kernel
theorem d_E_low_3 : decode b_E_low 3 = .ok (.invokevirtual 23, 3) := by decide +kernel
theorem d_E_low_6 : decode b_E_low 6 = .ok (.aload_n 0, 1) := by decide +kernel
theorem d_E_low_7 : decode b_E_low 7 = .ok (.iload_n 1, 1) := by decide +kernel
theorem d_E_low_8 : decode b_E_low 8 = .ok (.invokevirtual 31, 3) := by decide +kernel
theorem d_E_low_11 : decode b_E_low 11 = .ok (.isub, 1) := by decide +kernel
theorem d_E_low_12 : decode b_E_low 12 = .ok (.ireturn, 1) := by decide +kernel
def f_E_low (g : Sg) (a1 : Int32) (a2 : Int32) : Option (Int32 × Sg) := (qs_bn (f_E_field g (a1) (a2)) fun r1 u2 => (qs_bn (f_E_sizeUsed u2 (a1)) fun r3 u4 => (some (r1 - r3, u4))))
set_option maxHeartbeats 4000000 in
set_option maxRecDepth 100000 in
theorem c_E_low (l : Launch) (dC : Nat → ClassId) (dI : Nat → Nat → Nat) (h : Nat → Nat) (c : Nat → ClassId) (sz : Nat) (g : Sg) (a1 : Int32) (a2 : Int32) (r0 : Int32) (u0 : Sg) (hF : f_E_low g a1 a2 = some (r0, u0)) : Met l y_E_low (qs_ws y_E_low b_E_low 3 (some .int)) ({ frames := 2, cells := 0, slots := 0, locals := 44 } : Room) (va_Pc ([.ref (h 1), .int a1, .int a2] : List Value) (fun U => U.heap.size = sz ∧ va_P (dC, dI) vwCl (qs_W h c g) U.heap ∧ va_K (dC, dI) vwCl (qs_T c) U ∧ va_D (fun _ => True) (qs_W h c g) ∧ qs_N U)) (va_Qi (fun (r : Int32) (u : Sg) => r = r0 ∧ u = u0) (qs_at dC dI h c (va_A (qs_W h c g) sz)) (va_A (qs_W h c g) sz)) 0 0 (va_A (qs_W h c g) sz) := by
  refine Met.ofW (cc := b_E_low) (maxL := 3) (ret := (some .int)) (by decide +kernel) rfl ?_
  intro p e s m args below meth cd s₁ B hml hv
  obtain ⟨rfl, hsz, hP, hK, hD0, hNs⟩ := hv
  have hx := B.exec
  have hb := B.bytes
  have hr := B.returns
  have hts := atoms_spec (ws := (qs_ws y_E_low b_E_low 3 (some .int))) B.pre
  have hg : ∀ w ∈ qs_gt, w.before _ s = true := fun w h => hts w (List.mem_cons_of_mem _ h)
  have hown : s.vm.findClass R_E = some m.cls := findClass_of_methodNamed B.named
  have hlocks := B.notSynchronized
  subst hsz
  have hD := hD0.self (sz := s.heap.size)
  generalize hAe : va_A (qs_W h c g) s.heap.size = A at hD ⊢
  have hA : ∀ q : Nat, s.heap.size ≤ q → A q := fun q h => by rw [← hAe]; exact Or.inr h
  have hS : va_S A s.heap s.heap [] := va_S.rf
  have hl := lv_entry ([.ref (h 1), .int a1, .int a2] : List Value) (n := 3) (Nat.le_of_ble_eq_true rfl)
  rw [lg_entry_eq]
  generalize (lg_sl ([.ref (h 1), .int a1, .int a2] : List Value) ++ List.replicate (3 - (lg_sl ([.ref (h 1), .int a1, .int a2] : List Value)).length) Slot.unset).toArray = ls at hl ⊢
  have hl : lv_has ls 3 [(0, .ref (h 1)), (1, .int (a1)), (2, .int (a2))] := hl
  unfold f_E_low at hF
  obtain ⟨H, hHe⟩ : ∃ H, H = s.heap := ⟨_, rfl⟩
  obtain ⟨locs, hLe⟩ : ∃ L : List Loc, L = [] := ⟨_, rfl⟩
  rw [← hHe] at hP ⊢
  rw [← hLe]
  have hS : va_S A s.heap H locs := by rw [hHe, hLe]; exact hS
  refine lv_aload_n hx hb d_E_low_0 rfl (lv_at hl 0 rfl) ?_
  refine lv_iload_n hx hb d_E_low_1 rfl (lv_at hl 1 rfl) ?_
  refine lv_iload_n hx hb d_E_low_2 rfl (lv_at hl 2 rfl) ?_
  obtain ⟨r1, u2, hX, hF⟩ := qs_bn_some hF
  refine qs_ci (Wd := qs_W h c) (isC := [0, 1, 2, 3, 4, 5, 6, 7, 8, 9, 10, 11, 12, 13, 14, 15, 16]) (va_runV (own := "QuakeServer$Entities") (C := "QuakeServer$Entities") (As := [.int (a1), .int (a2)]) (rest := []) ⟨hx, hb, hml, hown, hg⟩ (c_E_field l dC dI h c H.size g (a1) (a2) r1 u2 hX) (cwV 2 hg (qs_gV t_512 t_192 t_193 t_2 t_194) rfl rfl rfl (by decide +kernel) ⟨Nat.le_of_ble_eq_true rfl, Nat.le_of_ble_eq_true rfl⟩) ⟨qs_blind, va_recv hK hP (ci := 0) (q0 := 1) rfl rfl, fun U hU hW => ⟨rfl, by rw [hU], by rw [hU]; exact hP, va_K.moved hW.alike hK, hD.weaken (fun _ _ _ _ => trivial), hNs.warm hW⟩⟩ rfl rfl hl.1 rfl (lv_room (Nat.le_of_ble_eq_true rfl)) d_E_low_3 ⟨Nat.le_of_ble_eq_true rfl, Nat.le_of_ble_eq_true rfl⟩) rfl hP hD hS hA (fun H locs hP hD hS => ?_)
  refine lv_aload_n hx hb d_E_low_6 rfl (lv_at hl 0 rfl) ?_
  refine lv_iload_n hx hb d_E_low_7 rfl (lv_at hl 1 rfl) ?_
  obtain ⟨r3, u4, hX, hF⟩ := qs_bn_some hF
  refine qs_ci (Wd := qs_W h c) (isC := [0, 1, 2, 3, 4, 5, 6, 7, 8, 9, 10, 11, 12, 13, 14, 15, 16]) (va_runV (own := "QuakeServer$Entities") (C := "QuakeServer$Entities") (As := [.int (a1)]) (rest := [.int (r1)]) ⟨hx, hb, hml, hown, hg⟩ (c_E_sizeUsed l dC dI h c H.size u2 (a1) r3 u4 hX) (cwV 1 hg (qs_gV t_539 t_541 tp_11 t_2 t_542) rfl rfl rfl (by decide +kernel) ⟨Nat.le_of_ble_eq_true rfl, Nat.le_of_ble_eq_true rfl⟩) ⟨qs_blind, va_recv hK hP (ci := 0) (q0 := 1) rfl rfl, fun U hU hW => ⟨rfl, by rw [hU], by rw [hU]; exact hP, va_K.moved hW.alike hK, hD.weaken (fun _ _ _ _ => trivial), hNs.warm hW⟩⟩ rfl rfl hl.1 rfl (lv_room (Nat.le_of_ble_eq_true rfl)) d_E_low_8 ⟨Nat.le_of_ble_eq_true rfl, Nat.le_of_ble_eq_true rfl⟩) rfl hP hD hS hA (fun H locs hP hD hS => ?_)
  refine lv_isub hx hb d_E_low_11 ?_
  obtain ⟨h8, h9⟩ := qs_ret hF
  exact W.iret (v := r1 - r3) hx hb hr (fun t ht hW => ⟨⟨(r1 - r3), u4, rfl, ⟨h8, h9⟩, by rw [ht]; exact hP, va_K.moved hW.alike hK, hD⟩, hS.F ht⟩) hS.2.2 d_E_low_12

theorem d_E_high_0 : decode b_E_high 0 = .ok (.aload_n 0, 1) := by decide +kernel
theorem d_E_high_1 : decode b_E_high 1 = .ok (.iload_n 1, 1) := by decide +kernel
theorem d_E_high_2 : decode b_E_high 2 = .ok (.iload_n 2, 1) := by decide +kernel
theorem d_E_high_3 : decode b_E_high 3 = .ok (.invokevirtual 23, 3) := by decide +kernel
theorem d_E_high_6 : decode b_E_high 6 = .ok (.aload_n 0, 1) := by decide +kernel
theorem d_E_high_7 : decode b_E_high 7 = .ok (.iload_n 1, 1) := by decide +kernel
theorem d_E_high_8 : decode b_E_high 8 = .ok (.invokevirtual 31, 3) := by decide +kernel
theorem d_E_high_11 : decode b_E_high 11 = .ok (.iadd, 1) := by decide +kernel
theorem d_E_high_12 : decode b_E_high 12 = .ok (.ireturn, 1) := by decide +kernel
def f_E_high (g : Sg) (a1 : Int32) (a2 : Int32) : Option (Int32 × Sg) := (qs_bn (f_E_field g (a1) (a2)) fun r1 u2 => (qs_bn (f_E_sizeUsed u2 (a1)) fun r3 u4 => (some (r1 + r3, u4))))
set_option maxHeartbeats 4000000 in
set_option maxRecDepth 100000 in
theorem c_E_high (l : Launch) (dC : Nat → ClassId) (dI : Nat → Nat → Nat) (h : Nat → Nat) (c : Nat → ClassId) (sz : Nat) (g : Sg) (a1 : Int32) (a2 : Int32) (r0 : Int32) (u0 : Sg) (hF : f_E_high g a1 a2 = some (r0, u0)) : Met l y_E_high (qs_ws y_E_high b_E_high 3 (some .int)) ({ frames := 2, cells := 0, slots := 0, locals := 44 } : Room) (va_Pc ([.ref (h 1), .int a1, .int a2] : List Value) (fun U => U.heap.size = sz ∧ va_P (dC, dI) vwCl (qs_W h c g) U.heap ∧ va_K (dC, dI) vwCl (qs_T c) U ∧ va_D (fun _ => True) (qs_W h c g) ∧ qs_N U)) (va_Qi (fun (r : Int32) (u : Sg) => r = r0 ∧ u = u0) (qs_at dC dI h c (va_A (qs_W h c g) sz)) (va_A (qs_W h c g) sz)) 0 0 (va_A (qs_W h c g) sz) := by
  refine Met.ofW (cc := b_E_high) (maxL := 3) (ret := (some .int)) (by decide +kernel) rfl ?_
  intro p e s m args below meth cd s₁ B hml hv
  obtain ⟨rfl, hsz, hP, hK, hD0, hNs⟩ := hv
  have hx := B.exec
  have hb := B.bytes
  have hr := B.returns
  have hts := atoms_spec (ws := (qs_ws y_E_high b_E_high 3 (some .int))) B.pre
  have hg : ∀ w ∈ qs_gt, w.before _ s = true := fun w h => hts w (List.mem_cons_of_mem _ h)
  have hown : s.vm.findClass R_E = some m.cls := findClass_of_methodNamed B.named
  have hlocks := B.notSynchronized
  subst hsz
  have hD := hD0.self (sz := s.heap.size)
  generalize hAe : va_A (qs_W h c g) s.heap.size = A at hD ⊢
  have hA : ∀ q : Nat, s.heap.size ≤ q → A q := fun q h => by rw [← hAe]; exact Or.inr h
  have hS : va_S A s.heap s.heap [] := va_S.rf
  have hl := lv_entry ([.ref (h 1), .int a1, .int a2] : List Value) (n := 3) (Nat.le_of_ble_eq_true rfl)
  rw [lg_entry_eq]
  generalize (lg_sl ([.ref (h 1), .int a1, .int a2] : List Value) ++ List.replicate (3 - (lg_sl ([.ref (h 1), .int a1, .int a2] : List Value)).length) Slot.unset).toArray = ls at hl ⊢
  have hl : lv_has ls 3 [(0, .ref (h 1)), (1, .int (a1)), (2, .int (a2))] := hl
  unfold f_E_high at hF
  obtain ⟨H, hHe⟩ : ∃ H, H = s.heap := ⟨_, rfl⟩
  obtain ⟨locs, hLe⟩ : ∃ L : List Loc, L = [] := ⟨_, rfl⟩
  rw [← hHe] at hP ⊢
  rw [← hLe]
  have hS : va_S A s.heap H locs := by rw [hHe, hLe]; exact hS
  refine lv_aload_n hx hb d_E_high_0 rfl (lv_at hl 0 rfl) ?_
  refine lv_iload_n hx hb d_E_high_1 rfl (lv_at hl 1 rfl) ?_
  refine lv_iload_n hx hb d_E_high_2 rfl (lv_at hl 2 rfl) ?_
  obtain ⟨r1, u2, hX, hF⟩ := qs_bn_some hF
  refine qs_ci (Wd := qs_W h c) (isC := [0, 1, 2, 3, 4, 5, 6, 7, 8, 9, 10, 11, 12, 13, 14, 15, 16]) (va_runV (own := "QuakeServer$Entities") (C := "QuakeServer$Entities") (As := [.int (a1), .int (a2)]) (rest := []) ⟨hx, hb, hml, hown, hg⟩ (c_E_field l dC dI h c H.size g (a1) (a2) r1 u2 hX) (cwV 2 hg (qs_gV t_512 t_192 t_193 t_2 t_194) rfl rfl rfl (by decide +kernel) ⟨Nat.le_of_ble_eq_true rfl, Nat.le_of_ble_eq_true rfl⟩) ⟨qs_blind, va_recv hK hP (ci := 0) (q0 := 1) rfl rfl, fun U hU hW => ⟨rfl, by rw [hU], by rw [hU]; exact hP, va_K.moved hW.alike hK, hD.weaken (fun _ _ _ _ => trivial), hNs.warm hW⟩⟩ rfl rfl hl.1 rfl (lv_room (Nat.le_of_ble_eq_true rfl)) d_E_high_3 ⟨Nat.le_of_ble_eq_true rfl, Nat.le_of_ble_eq_true rfl⟩) rfl hP hD hS hA (fun H locs hP hD hS => ?_)
  refine lv_aload_n hx hb d_E_high_6 rfl (lv_at hl 0 rfl) ?_
  refine lv_iload_n hx hb d_E_high_7 rfl (lv_at hl 1 rfl) ?_
  obtain ⟨r3, u4, hX, hF⟩ := qs_bn_some hF
  refine qs_ci (Wd := qs_W h c) (isC := [0, 1, 2, 3, 4, 5, 6, 7, 8, 9, 10, 11, 12, 13, 14, 15, 16]) (va_runV (own := "QuakeServer$Entities") (C := "QuakeServer$Entities") (As := [.int (a1)]) (rest := [.int (r1)]) ⟨hx, hb, hml, hown, hg⟩ (c_E_sizeUsed l dC dI h c H.size u2 (a1) r3 u4 hX) (cwV 1 hg (qs_gV t_539 t_541 tp_11 t_2 t_542) rfl rfl rfl (by decide +kernel) ⟨Nat.le_of_ble_eq_true rfl, Nat.le_of_ble_eq_true rfl⟩) ⟨qs_blind, va_recv hK hP (ci := 0) (q0 := 1) rfl rfl, fun U hU hW => ⟨rfl, by rw [hU], by rw [hU]; exact hP, va_K.moved hW.alike hK, hD.weaken (fun _ _ _ _ => trivial), hNs.warm hW⟩⟩ rfl rfl hl.1 rfl (lv_room (Nat.le_of_ble_eq_true rfl)) d_E_high_8 ⟨Nat.le_of_ble_eq_true rfl, Nat.le_of_ble_eq_true rfl⟩) rfl hP hD hS hA (fun H locs hP hD hS => ?_)
  refine lv_iadd hx hb d_E_high_11 ?_
  obtain ⟨h8, h9⟩ := qs_ret hF
  exact W.iret (v := r1 + r3) hx hb hr (fun t ht hW => ⟨⟨(r1 + r3), u4, rfl, ⟨h8, h9⟩, by rw [ht]; exact hP, va_K.moved hW.alike hK, hD⟩, hS.F ht⟩) hS.2.2 d_E_high_12

theorem d_E_boxesOverlap_0 : decode b_E_boxesOverlap 0 = .ok (.aload_n 0, 1) := by decide +kernel
theorem d_E_boxesOverlap_1 : decode b_E_boxesOverlap 1 = .ok (.iload_n 1, 1) := by decide +kernel
theorem d_E_boxesOverlap_2 : decode b_E_boxesOverlap 2 = .ok (.iload_n 3, 1) := by decide +kernel
theorem d_E_boxesOverlap_3 : decode b_E_boxesOverlap 3 = .ok (.invokevirtual 23, 3) := by decide +kernel
theorem d_E_boxesOverlap_6 : decode b_E_boxesOverlap 6 = .ok (.aload_n 0, 1) := by decide +kernel
theorem d_E_boxesOverlap_7 : decode b_E_boxesOverlap 7 = .ok (.iload_n 2, 1) := by decide +kernel
theorem d_E_boxesOverlap_8 : decode b_E_boxesOverlap 8 = .ok (.iload_n 3, 1) := by decide +kernel
theorem d_E_boxesOverlap_9 : decode b_E_boxesOverlap 9 = .ok (.invokevirtual 23, 3) := by decide +kernel
theorem d_E_boxesOverlap_12 : decode b_E_boxesOverlap 12 = .ok (.isub, 1) := by decide +kernel
theorem d_E_boxesOverlap_13 : decode b_E_boxesOverlap 13 = .ok (.invokestatic 42, 3) := by decide +kernel
theorem d_E_boxesOverlap_16 : decode b_E_boxesOverlap 16 = .ok (.istore 4, 2) := by decide +kernel
theorem d_E_boxesOverlap_18 : decode b_E_boxesOverlap 18 = .ok (.iload 4, 2) := by decide +kernel
theorem d_E_boxesOverlap_20 : decode b_E_boxesOverlap 20 = .ok (.aload_n 0, 1) := by decide +kernel
theorem d_E_boxesOverlap_21 : decode b_E_boxesOverlap 21 = .ok (.iload_n 1, 1) := by decide +kernel
theorem d_E_boxesOverlap_22 : decode b_E_boxesOverlap 22 = .ok (.invokevirtual 31, 3) := by decide +kernel
theorem d_E_boxesOverlap_25 : decode b_E_boxesOverlap 25 = .ok (.aload_n 0, 1) := by decide +kernel
theorem d_E_boxesOverlap_26 : decode b_E_boxesOverlap 26 = .ok (.iload_n 2, 1) := by decide +kernel
theorem d_E_boxesOverlap_27 : decode b_E_boxesOverlap 27 = .ok (.invokevirtual 31, 3) := by decide +kernel
theorem d_E_boxesOverlap_30 : decode b_E_boxesOverlap 30 = .ok (.iadd, 1) := by decide +kernel
theorem d_E_boxesOverlap_31 : decode b_E_boxesOverlap 31 = .ok (.if_icmp .ge 7, 3) := by decide +kernel
theorem d_E_boxesOverlap_34 : decode b_E_boxesOverlap 34 = .ok (.iconst 1, 1) := by decide +kernel
theorem d_E_boxesOverlap_35 : decode b_E_boxesOverlap 35 = .ok (.goto 4, 3) := by decide +kernel
theorem d_E_boxesOverlap_38 : decode b_E_boxesOverlap 38 = .ok (.iconst 0, 1) := by decide +kernel
theorem d_E_boxesOverlap_39 : decode b_E_boxesOverlap 39 = .ok (.ireturn, 1) := by decide +kernel
def f_E_boxesOverlap (g : Sg) (a1 : Int32) (a2 : Int32) (a3 : Int32) : Option (Int32 × Sg) := (qs_bn (f_E_field g (a1) (a3)) fun r1 u2 => (qs_bn (f_E_field u2 (a2) (a3)) fun r3 u4 => (qs_bn (f_E_sizeUsed u4 (a1)) fun r5 u6 => (qs_bn (f_E_sizeUsed u6 (a2)) fun r7 u8 => (if (r5 + r7) ≤ (if 0 ≤ (r1 - r3) then (r1 - r3) else 0 - (r1 - r3)) then (some (0, u8)) else (some (1, u8)))))))
set_option maxHeartbeats 4000000 in
set_option maxRecDepth 100000 in
theorem c_E_boxesOverlap (l : Launch) (dC : Nat → ClassId) (dI : Nat → Nat → Nat) (h : Nat → Nat) (c : Nat → ClassId) (sz : Nat) (g : Sg) (a1 : Int32) (a2 : Int32) (a3 : Int32) (r0 : Int32) (u0 : Sg) (hF : f_E_boxesOverlap g a1 a2 a3 = some (r0, u0)) : Met l y_E_boxesOverlap (qs_ws y_E_boxesOverlap b_E_boxesOverlap 5 (some .boolean)) ({ frames := 2, cells := 0, slots := 0, locals := 44 } : Room) (va_Pc ([.ref (h 1), .int a1, .int a2, .int a3] : List Value) (fun U => U.heap.size = sz ∧ va_P (dC, dI) vwCl (qs_W h c g) U.heap ∧ va_K (dC, dI) vwCl (qs_T c) U ∧ va_D (fun _ => True) (qs_W h c g) ∧ qs_N U)) (va_Qi (fun (r : Int32) (u : Sg) => r = r0 ∧ u = u0) (qs_at dC dI h c (va_A (qs_W h c g) sz)) (va_A (qs_W h c g) sz)) 0 0 (va_A (qs_W h c g) sz) := by
  refine Met.ofW (cc := b_E_boxesOverlap) (maxL := 5) (ret := (some .boolean)) (by decide +kernel) rfl ?_
  intro p e s m args below meth cd s₁ B hml hv
  obtain ⟨rfl, hsz, hP, hK, hD0, hNs⟩ := hv
  have hx := B.exec
  have hb := B.bytes
  have hr := B.returns
  have hts := atoms_spec (ws := (qs_ws y_E_boxesOverlap b_E_boxesOverlap 5 (some .boolean))) B.pre
  have hg : ∀ w ∈ qs_gt, w.before _ s = true := fun w h => hts w (List.mem_cons_of_mem _ h)
  have hown : s.vm.findClass R_E = some m.cls := findClass_of_methodNamed B.named
  have hlocks := B.notSynchronized
  subst hsz
  have hD := hD0.self (sz := s.heap.size)
  generalize hAe : va_A (qs_W h c g) s.heap.size = A at hD ⊢
  have hA : ∀ q : Nat, s.heap.size ≤ q → A q := fun q h => by rw [← hAe]; exact Or.inr h
  have hS : va_S A s.heap s.heap [] := va_S.rf
  have hl := lv_entry ([.ref (h 1), .int a1, .int a2, .int a3] : List Value) (n := 5) (Nat.le_of_ble_eq_true rfl)
  rw [lg_entry_eq]
  generalize (lg_sl ([.ref (h 1), .int a1, .int a2, .int a3] : List Value) ++ List.replicate (5 - (lg_sl ([.ref (h 1), .int a1, .int a2, .int a3] : List Value)).length) Slot.unset).toArray = ls at hl ⊢
  have hl : lv_has ls 5 [(0, .ref (h 1)), (1, .int (a1)), (2, .int (a2)), (3, .int (a3))] := hl
  unfold f_E_boxesOverlap at hF
  obtain ⟨H, hHe⟩ : ∃ H, H = s.heap := ⟨_, rfl⟩
  obtain ⟨locs, hLe⟩ : ∃ L : List Loc, L = [] := ⟨_, rfl⟩
  rw [← hHe] at hP ⊢
  rw [← hLe]
  have hS : va_S A s.heap H locs := by rw [hHe, hLe]; exact hS
  refine lv_aload_n hx hb d_E_boxesOverlap_0 rfl (lv_at hl 0 rfl) ?_
  refine lv_iload_n hx hb d_E_boxesOverlap_1 rfl (lv_at hl 1 rfl) ?_
  refine lv_iload_n hx hb d_E_boxesOverlap_2 rfl (lv_at hl 3 rfl) ?_
  obtain ⟨r1, u2, hX, hF⟩ := qs_bn_some hF
  refine qs_ci (Wd := qs_W h c) (isC := [0, 1, 2, 3, 4, 5, 6, 7, 8, 9, 10, 11, 12, 13, 14, 15, 16]) (va_runV (own := "QuakeServer$Entities") (C := "QuakeServer$Entities") (As := [.int (a1), .int (a3)]) (rest := []) ⟨hx, hb, hml, hown, hg⟩ (c_E_field l dC dI h c H.size g (a1) (a3) r1 u2 hX) (cwV 2 hg (qs_gV t_512 t_192 t_193 t_2 t_194) rfl rfl rfl (by decide +kernel) ⟨Nat.le_of_ble_eq_true rfl, Nat.le_of_ble_eq_true rfl⟩) ⟨qs_blind, va_recv hK hP (ci := 0) (q0 := 1) rfl rfl, fun U hU hW => ⟨rfl, by rw [hU], by rw [hU]; exact hP, va_K.moved hW.alike hK, hD.weaken (fun _ _ _ _ => trivial), hNs.warm hW⟩⟩ rfl rfl hl.1 rfl (lv_room (Nat.le_of_ble_eq_true rfl)) d_E_boxesOverlap_3 ⟨Nat.le_of_ble_eq_true rfl, Nat.le_of_ble_eq_true rfl⟩) rfl hP hD hS hA (fun H locs hP hD hS => ?_)
  refine lv_aload_n hx hb d_E_boxesOverlap_6 rfl (lv_at hl 0 rfl) ?_
  refine lv_iload_n hx hb d_E_boxesOverlap_7 rfl (lv_at hl 2 rfl) ?_
  refine lv_iload_n hx hb d_E_boxesOverlap_8 rfl (lv_at hl 3 rfl) ?_
  obtain ⟨r3, u4, hX, hF⟩ := qs_bn_some hF
  refine qs_ci (Wd := qs_W h c) (isC := [0, 1, 2, 3, 4, 5, 6, 7, 8, 9, 10, 11, 12, 13, 14, 15, 16]) (va_runV (own := "QuakeServer$Entities") (C := "QuakeServer$Entities") (As := [.int (a2), .int (a3)]) (rest := [.int (r1)]) ⟨hx, hb, hml, hown, hg⟩ (c_E_field l dC dI h c H.size u2 (a2) (a3) r3 u4 hX) (cwV 2 hg (qs_gV t_512 t_192 t_193 t_2 t_194) rfl rfl rfl (by decide +kernel) ⟨Nat.le_of_ble_eq_true rfl, Nat.le_of_ble_eq_true rfl⟩) ⟨qs_blind, va_recv hK hP (ci := 0) (q0 := 1) rfl rfl, fun U hU hW => ⟨rfl, by rw [hU], by rw [hU]; exact hP, va_K.moved hW.alike hK, hD.weaken (fun _ _ _ _ => trivial), hNs.warm hW⟩⟩ rfl rfl hl.1 rfl (lv_room (Nat.le_of_ble_eq_true rfl)) d_E_boxesOverlap_9 ⟨Nat.le_of_ble_eq_true rfl, Nat.le_of_ble_eq_true rfl⟩) rfl hP hD hS hA (fun H locs hP hD hS => ?_)
  refine lv_isub hx hb d_E_boxesOverlap_12 ?_
  refine va_mabs hx hb (hml.trans hl.1.symm) hown (hg _ t_577) (hg _ t_529) (hg _ t_15) (hg _ t_530) (Nat.le_of_ble_eq_true rfl) (Nat.le_of_ble_eq_true rfl) (Nat.zero_le _) (Nat.zero_le _) d_E_boxesOverlap_13 ?_
  refine lv_istore (lv' := [(4, .int (if 0 ≤ (r1 - r3) then (r1 - r3) else 0 - (r1 - r3))), (0, .ref (h 1)), (1, .int (a1)), (2, .int (a2)), (3, .int (a3))]) hx hb d_E_boxesOverlap_16 hl (by decide) rfl (fun ls hl => ?_)
  refine lv_iload hx hb d_E_boxesOverlap_18 (lv_at hl 0 rfl) ?_
  refine lv_aload_n hx hb d_E_boxesOverlap_20 rfl (lv_at hl 1 rfl) ?_
  refine lv_iload_n hx hb d_E_boxesOverlap_21 rfl (lv_at hl 2 rfl) ?_
  obtain ⟨r5, u6, hX, hF⟩ := qs_bn_some hF
  refine qs_ci (Wd := qs_W h c) (isC := [0, 1, 2, 3, 4, 5, 6, 7, 8, 9, 10, 11, 12, 13, 14, 15, 16]) (va_runV (own := "QuakeServer$Entities") (C := "QuakeServer$Entities") (As := [.int (a1)]) (rest := [.int (if 0 ≤ (r1 - r3) then (r1 - r3) else 0 - (r1 - r3))]) ⟨hx, hb, hml, hown, hg⟩ (c_E_sizeUsed l dC dI h c H.size u4 (a1) r5 u6 hX) (cwV 1 hg (qs_gV t_539 t_541 tp_11 t_2 t_542) rfl rfl rfl (by decide +kernel) ⟨Nat.le_of_ble_eq_true rfl, Nat.le_of_ble_eq_true rfl⟩) ⟨qs_blind, va_recv hK hP (ci := 0) (q0 := 1) rfl rfl, fun U hU hW => ⟨rfl, by rw [hU], by rw [hU]; exact hP, va_K.moved hW.alike hK, hD.weaken (fun _ _ _ _ => trivial), hNs.warm hW⟩⟩ rfl rfl hl.1 rfl (lv_room (Nat.le_of_ble_eq_true rfl)) d_E_boxesOverlap_22 ⟨Nat.le_of_ble_eq_true rfl, Nat.le_of_ble_eq_true rfl⟩) rfl hP hD hS hA (fun H locs hP hD hS => ?_)
  refine lv_aload_n hx hb d_E_boxesOverlap_25 rfl (lv_at hl 1 rfl) ?_
  refine lv_iload_n hx hb d_E_boxesOverlap_26 rfl (lv_at hl 3 rfl) ?_
  obtain ⟨r7, u8, hX, hF⟩ := qs_bn_some hF
  refine qs_ci (Wd := qs_W h c) (isC := [0, 1, 2, 3, 4, 5, 6, 7, 8, 9, 10, 11, 12, 13, 14, 15, 16]) (va_runV (own := "QuakeServer$Entities") (C := "QuakeServer$Entities") (As := [.int (a2)]) (rest := [.int (r5), .int (if 0 ≤ (r1 - r3) then (r1 - r3) else 0 - (r1 - r3))]) ⟨hx, hb, hml, hown, hg⟩ (c_E_sizeUsed l dC dI h c H.size u6 (a2) r7 u8 hX) (cwV 1 hg (qs_gV t_539 t_541 tp_11 t_2 t_542) rfl rfl rfl (by decide +kernel) ⟨Nat.le_of_ble_eq_true rfl, Nat.le_of_ble_eq_true rfl⟩) ⟨qs_blind, va_recv hK hP (ci := 0) (q0 := 1) rfl rfl, fun U hU hW => ⟨rfl, by rw [hU], by rw [hU]; exact hP, va_K.moved hW.alike hK, hD.weaken (fun _ _ _ _ => trivial), hNs.warm hW⟩⟩ rfl rfl hl.1 rfl (lv_room (Nat.le_of_ble_eq_true rfl)) d_E_boxesOverlap_27 ⟨Nat.le_of_ble_eq_true rfl, Nat.le_of_ble_eq_true rfl⟩) rfl hP hD hS hA (fun H locs hP hD hS => ?_)
  refine lv_iadd hx hb d_E_boxesOverlap_30 ?_
  refine lv_icmp_ge (tgt := 38) hx hb d_E_boxesOverlap_31 (by decide) (fun c9 => ?_) (fun c9 => ?_)
  · have hF := qs_pos c9 hF
    refine lv_iconst (v := 0) hx hb d_E_boxesOverlap_38 (by decide) ?_
    obtain ⟨h8, h9⟩ := qs_ret hF
    exact W.zret (ty := .boolean) (v := 0) hx hb hr rfl (fun t ht hW => ⟨⟨0, u8, rfl, ⟨h8, h9⟩, by rw [ht]; exact hP, va_K.moved hW.alike hK, hD⟩, hS.F ht⟩) hS.2.2 d_E_boxesOverlap_39
  · have hF := qs_neg c9 hF
    refine lv_iconst (v := 1) hx hb d_E_boxesOverlap_34 (by decide) ?_
    refine lv_goto (tgt := 39) hx hb d_E_boxesOverlap_35 (by decide) ?_
    obtain ⟨h8, h9⟩ := qs_ret hF
    exact W.zret (ty := .boolean) (v := 1) hx hb hr rfl (fun t ht hW => ⟨⟨1, u8, rfl, ⟨h8, h9⟩, by rw [ht]; exact hP, va_K.moved hW.alike hK, hD⟩, hS.F ht⟩) hS.2.2 d_E_boxesOverlap_39
