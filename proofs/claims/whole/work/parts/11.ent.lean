theorem d_E_isThere_0 : decode b_E_isThere 0 = .ok (.iload_n 1, 1) := by decide +kernel
theorem d_E_isThere_1 : decode b_E_isThere 1 = .ok (.ifCond .lt 22, 3) := by decide +kernel
theorem d_E_isThere_4 : decode b_E_isThere 4 = .ok (.iload_n 1, 1) := by decide +kernel
theorem d_E_isThere_5 : decode b_E_isThere 5 = .ok (.bipush 12, 2) := by decide +kernel
theorem d_E_isThere_7 : decode b_E_isThere 7 = .ok (.if_icmp .ge 16, 3) := by decide +kernel
theorem d_E_isThere_10 : decode b_E_isThere 10 = .ok (.aload_n 0, 1) := by decide +kernel
theorem d_E_isThere_11 : decode b_E_isThere 11 = .ok (.getfield 9, 3) := by decide +kernel
theorem d_E_isThere_14 : decode b_E_isThere 14 = .ok (.iload_n 1, 1) := by decide +kernel
theorem d_E_isThere_15 : decode b_E_isThere 15 = .ok (.baload, 1) := by decide +kernel
theorem d_E_isThere_16 : decode b_E_isThere 16 = .ok (.ifCond .eq 7, 3) := by decide +kernel
theorem d_E_isThere_19 : decode b_E_isThere 19 = .ok (.iconst 1, 1) := by decide +kernel
theorem d_E_isThere_20 : decode b_E_isThere 20 = .ok (.goto 4, 3) := by decide +kernel
theorem d_E_isThere_23 : decode b_E_isThere 23 = .ok (.iconst 0, 1) := by decide +kernel
theorem d_E_isThere_24 : decode b_E_isThere 24 = .ok (.ireturn, 1) := by decide +kernel
def f_E_isThere (g : Sg) (a1 : Int32) : Option (Int32 × Sg) := (if a1 < 0 then (some (0, g)) else (if 12 ≤ a1 then (some (0, g)) else (qs_in (a1) 12 (if (g 7 a1.toNatClampNeg) = 0 then (some (0, g)) else (some (1, g))))))
set_option maxHeartbeats 4000000 in
set_option maxRecDepth 100000 in
theorem c_E_isThere (l : Launch) (dC : Nat → ClassId) (dI : Nat → Nat → Nat) (h : Nat → Nat) (c : Nat → ClassId) (sz : Nat) (g : Sg) (a1 : Int32) (r0 : Int32) (u0 : Sg) (hF : f_E_isThere g a1 = some (r0, u0)) : Met l y_E_isThere (qs_ws y_E_isThere b_E_isThere 2 (some .boolean)) ({ frames := 0, cells := 0, slots := 0, locals := 0 } : Room) (va_Pc ([.ref (h 1), .int a1] : List Value) (fun U => U.heap.size = sz ∧ va_P (dC, dI) vwCl (qs_W h c g) U.heap ∧ va_K (dC, dI) vwCl (qs_T c) U ∧ va_D (fun _ => True) (qs_W h c g) ∧ qs_N U)) (va_Qi (fun (r : Int32) (u : Sg) => r = r0 ∧ u = u0) (qs_at dC dI h c (va_A (qs_W h c g) sz)) (va_A (qs_W h c g) sz)) 0 0 (va_A (qs_W h c g) sz) := by
  refine Met.ofW (cc := b_E_isThere) (maxL := 2) (ret := (some .boolean)) (by decide +kernel) rfl ?_
  intro p e s m args below meth cd s₁ B hml hv
  obtain ⟨rfl, hsz, hP, hK, hD0, hNs⟩ := hv
  have hx := B.exec
  have hb := B.bytes
  have hr := B.returns
  have hts := atoms_spec (ws := (qs_ws y_E_isThere b_E_isThere 2 (some .boolean))) B.pre
  have hg : ∀ w ∈ qs_gt, w.before _ s = true := fun w h => hts w (List.mem_cons_of_mem _ h)
  have hown : s.vm.findClass R_E = some m.cls := findClass_of_methodNamed B.named
  have hlocks := B.notSynchronized
  subst hsz
  have hD := hD0.self (sz := s.heap.size)
  generalize hAe : va_A (qs_W h c g) s.heap.size = A at hD ⊢
  have hA : ∀ q : Nat, s.heap.size ≤ q → A q := fun q h => by rw [← hAe]; exact Or.inr h
  have hS : va_S A s.heap s.heap [] := va_S.rf
  have hl := lv_entry ([.ref (h 1), .int a1] : List Value) (n := 2) (Nat.le_of_ble_eq_true rfl)
  rw [lg_entry_eq]
  generalize (lg_sl ([.ref (h 1), .int a1] : List Value) ++ List.replicate (2 - (lg_sl ([.ref (h 1), .int a1] : List Value)).length) Slot.unset).toArray = ls at hl ⊢
  have hl : lv_has ls 2 [(0, .ref (h 1)), (1, .int (a1))] := hl
  unfold f_E_isThere at hF
  obtain ⟨H, hHe⟩ : ∃ H, H = s.heap := ⟨_, rfl⟩
  obtain ⟨locs, hLe⟩ : ∃ L : List Loc, L = [] := ⟨_, rfl⟩
  rw [← hHe] at hP ⊢
  rw [← hLe]
  have hS : va_S A s.heap H locs := by rw [hHe, hLe]; exact hS
  refine lv_iload_n hx hb d_E_isThere_0 rfl (lv_at hl 1 rfl) ?_
  refine lv_if_lt (tgt := 23) hx hb d_E_isThere_1 (by decide) (fun c1 => ?_) (fun c1 => ?_)
  · have hF := qs_pos c1 hF
    refine lv_iconst (v := 0) hx hb d_E_isThere_23 (by decide) ?_
    obtain ⟨h8, h9⟩ := qs_ret hF
    exact W.zret (ty := .boolean) (v := 0) hx hb hr rfl (fun t ht hW => ⟨⟨0, g, rfl, ⟨h8, h9⟩, by rw [ht]; exact hP, va_K.moved hW.alike hK, hD⟩, hS.F ht⟩) hS.2.2 d_E_isThere_24
  · have hF := qs_neg c1 hF
    refine lv_iload_n hx hb d_E_isThere_4 rfl (lv_at hl 1 rfl) ?_
    refine lv_bipush (v := 12) hx hb d_E_isThere_5 (by decide) ?_
    refine lv_icmp_ge (tgt := 23) hx hb d_E_isThere_7 (by decide) (fun c2 => ?_) (fun c2 => ?_)
    · have hF := qs_pos c2 hF
      refine lv_iconst (v := 0) hx hb d_E_isThere_23 (by decide) ?_
      obtain ⟨h8, h9⟩ := qs_ret hF
      exact W.zret (ty := .boolean) (v := 0) hx hb hr rfl (fun t ht hW => ⟨⟨0, g, rfl, ⟨h8, h9⟩, by rw [ht]; exact hP, va_K.moved hW.alike hK, hD⟩, hS.F ht⟩) hS.2.2 d_E_isThere_24
    · have hF := qs_neg c2 hF
      refine lv_aload_n hx hb d_E_isThere_10 rfl (lv_at hl 0 rfl) ?_
      refine va_get (D := (dC, dI)) (ci := 0) (v := .ref (h 7)) (C := R_E) (T := T_E) (N := 2) hx hb hg in_E hown hK hP 1 rfl rfl 0 (by decide) (hg _ t_30) (fun _ h9 => h9) rfl d_E_isThere_11 ?_
      refine lv_iload_n hx hb d_E_isThere_14 rfl (lv_at hl 1 rfl) ?_
      obtain ⟨c3, hF⟩ := qs_in_some hF
      refine va_zald hx hb hK hP 7 0 rfl rfl c3 d_E_isThere_15 ?_
      refine lv_if_eq (tgt := 23) hx hb d_E_isThere_16 (by decide) (fun c4 => ?_) (fun c4 => ?_)
      · have hF := qs_pos c4 hF
        refine lv_iconst (v := 0) hx hb d_E_isThere_23 (by decide) ?_
        obtain ⟨h8, h9⟩ := qs_ret hF
        exact W.zret (ty := .boolean) (v := 0) hx hb hr rfl (fun t ht hW => ⟨⟨0, g, rfl, ⟨h8, h9⟩, by rw [ht]; exact hP, va_K.moved hW.alike hK, hD⟩, hS.F ht⟩) hS.2.2 d_E_isThere_24
      · have hF := qs_neg c4 hF
        refine lv_iconst (v := 1) hx hb d_E_isThere_19 (by decide) ?_
        refine lv_goto (tgt := 24) hx hb d_E_isThere_20 (by decide) ?_
        obtain ⟨h8, h9⟩ := qs_ret hF
        exact W.zret (ty := .boolean) (v := 1) hx hb hr rfl (fun t ht hW => ⟨⟨1, g, rfl, ⟨h8, h9⟩, by rw [ht]; exact hP, va_K.moved hW.alike hK, hD⟩, hS.F ht⟩) hS.2.2 d_E_isThere_24

theorem d_E_number_0 : decode b_E_number 0 = .ok (.iconst 0, 1) := by decide +kernel
theorem d_E_number_1 : decode b_E_number 1 = .ok (.istore_n 1, 1) := by decide +kernel
theorem d_E_number_2 : decode b_E_number 2 = .ok (.iconst 0, 1) := by decide +kernel
theorem d_E_number_3 : decode b_E_number 3 = .ok (.istore_n 2, 1) := by decide +kernel
theorem d_E_number_4 : decode b_E_number 4 = .ok (.iload_n 2, 1) := by decide +kernel
theorem d_E_number_5 : decode b_E_number 5 = .ok (.bipush 12, 2) := by decide +kernel
theorem d_E_number_7 : decode b_E_number 7 = .ok (.if_icmp .ge 21, 3) := by decide +kernel
theorem d_E_number_10 : decode b_E_number 10 = .ok (.aload_n 0, 1) := by decide +kernel
theorem d_E_number_11 : decode b_E_number 11 = .ok (.getfield 9, 3) := by decide +kernel
theorem d_E_number_14 : decode b_E_number 14 = .ok (.iload_n 2, 1) := by decide +kernel
theorem d_E_number_15 : decode b_E_number 15 = .ok (.baload, 1) := by decide +kernel
theorem d_E_number_16 : decode b_E_number 16 = .ok (.ifCond .eq 6, 3) := by decide +kernel
theorem d_E_number_19 : decode b_E_number 19 = .ok (.iinc 1 1, 3) := by decide +kernel
theorem d_E_number_22 : decode b_E_number 22 = .ok (.iinc 2 1, 3) := by decide +kernel
theorem d_E_number_25 : decode b_E_number 25 = .ok (.goto (-21), 3) := by decide +kernel
theorem d_E_number_28 : decode b_E_number 28 = .ok (.iload_n 1, 1) := by decide +kernel
theorem d_E_number_29 : decode b_E_number 29 = .ok (.ireturn, 1) := by decide +kernel
def f_E_number_22 (k4 : Sg → Int32 → Int32 → Option (Int32 × Sg)) (g : Sg) (x1 : Int32) (x2 : Int32) : Option (Int32 × Sg) := (k4 g (x1) (x2 + 1))
def f_E_number_4  : Nat → Sg → Int32 → Int32 → Option (Int32 × Sg)
  | 0, _, _, _ => none
  | n + 1, g, x1, x2 => (if 12 ≤ x2 then (some (x1, g)) else (qs_in (x2) 12 (if (g 7 x2.toNatClampNeg) = 0 then (f_E_number_22 (fun g x1 x2 => f_E_number_4  n g x1 x2) g (x1) (x2)) else (f_E_number_22 (fun g x1 x2 => f_E_number_4  n g x1 x2) g (x1 + 1) (x2)))))
def f_E_number (g : Sg)  : Option (Int32 × Sg) := (f_E_number_4 200 g (0) (0))
set_option maxHeartbeats 4000000 in
set_option maxRecDepth 100000 in
theorem c_E_number (l : Launch) (dC : Nat → ClassId) (dI : Nat → Nat → Nat) (h : Nat → Nat) (c : Nat → ClassId) (sz : Nat) (g : Sg)  (r0 : Int32) (u0 : Sg) (hF : f_E_number g  = some (r0, u0)) : Met l y_E_number (qs_ws y_E_number b_E_number 3 (some .int)) ({ frames := 0, cells := 0, slots := 0, locals := 0 } : Room) (va_Pc ([.ref (h 1)] : List Value) (fun U => U.heap.size = sz ∧ va_P (dC, dI) vwCl (qs_W h c g) U.heap ∧ va_K (dC, dI) vwCl (qs_T c) U ∧ va_D (fun _ => True) (qs_W h c g) ∧ qs_N U)) (va_Qi (fun (r : Int32) (u : Sg) => r = r0 ∧ u = u0) (qs_at dC dI h c (va_A (qs_W h c g) sz)) (va_A (qs_W h c g) sz)) 0 0 (va_A (qs_W h c g) sz) := by
  refine Met.ofW (cc := b_E_number) (maxL := 3) (ret := (some .int)) (by decide +kernel) rfl ?_
  intro p e s m args below meth cd s₁ B hml hv
  obtain ⟨rfl, hsz, hP, hK, hD0, hNs⟩ := hv
  have hx := B.exec
  have hb := B.bytes
  have hr := B.returns
  have hts := atoms_spec (ws := (qs_ws y_E_number b_E_number 3 (some .int))) B.pre
  have hg : ∀ w ∈ qs_gt, w.before _ s = true := fun w h => hts w (List.mem_cons_of_mem _ h)
  have hown : s.vm.findClass R_E = some m.cls := findClass_of_methodNamed B.named
  have hlocks := B.notSynchronized
  subst hsz
  have hD := hD0.self (sz := s.heap.size)
  generalize hAe : va_A (qs_W h c g) s.heap.size = A at hD ⊢
  have hA : ∀ q : Nat, s.heap.size ≤ q → A q := fun q h => by rw [← hAe]; exact Or.inr h
  have hS : va_S A s.heap s.heap [] := va_S.rf
  have kb_22 : ∀ (k4 : Sg → Int32 → Int32 → Option (Int32 × Sg)), (∀ (g : Sg) (x1 : Int32) (x2 : Int32) (H : Heap) (locs : List Loc) (ls : Array Slot), va_P (dC, dI) vwCl (qs_W h c g) H → va_D A (qs_W h c g) → va_S A s.heap H locs → lv_has ls 3 [(0, .ref (h 1)), (1, .int (x1)), (2, .int (x2))] → k4 g x1 x2 = some (r0, u0) → W p l e (headSpec (qs_ws y_E_number b_E_number 3 (some .int)) ({ frames := 0, cells := 0, slots := 0, locals := 0 } : Room)).room s m ([.ref (h 1)] : List Value).toArray below meth cd H locs 0 0 (MQ below (va_Qi (fun (r : Int32) (u : Sg) => r = r0 ∧ u = u0) (qs_at dC dI h c A) A) ([.ref (h 1)] : List Value).toArray s 0 0 A) (F0 m 4 ls [])) → ∀ (g : Sg) (x1 : Int32) (x2 : Int32) (H : Heap) (locs : List Loc) (ls : Array Slot), va_P (dC, dI) vwCl (qs_W h c g) H → va_D A (qs_W h c g) → va_S A s.heap H locs → lv_has ls 3 [(0, .ref (h 1)), (1, .int (x1)), (2, .int (x2))] → f_E_number_22 k4  g x1 x2 = some (r0, u0) → W p l e (headSpec (qs_ws y_E_number b_E_number 3 (some .int)) ({ frames := 0, cells := 0, slots := 0, locals := 0 } : Room)).room s m ([.ref (h 1)] : List Value).toArray below meth cd H locs 0 0 (MQ below (va_Qi (fun (r : Int32) (u : Sg) => r = r0 ∧ u = u0) (qs_at dC dI h c A) A) ([.ref (h 1)] : List Value).toArray s 0 0 A) (F0 m 22 ls []) := by
    intro k4 hk4
    intro g x1 x2 H locs ls hP hD hS hl hF
    unfold f_E_number_22 at hF
    refine lv_iinc (v := x2 + 1) (lv' := [(2, .int (x2 + 1)), (0, .ref (h 1)), (1, .int (x1))]) hx hb d_E_number_22 hl (k := 2) rfl (by rfl) (by decide) rfl (fun ls hl => ?_)
    refine lv_goto (tgt := 4) hx hb d_E_number_25 (by decide) ?_
    exact hk4 g (x1) (x2 + 1) H locs ls hP hD hS (lv_sub hl [1, 2, 0] rfl) hF
  have kb_4 : ∀ n : Nat, ∀ (g : Sg) (x1 : Int32) (x2 : Int32) (H : Heap) (locs : List Loc) (ls : Array Slot), va_P (dC, dI) vwCl (qs_W h c g) H → va_D A (qs_W h c g) → va_S A s.heap H locs → lv_has ls 3 [(0, .ref (h 1)), (1, .int (x1)), (2, .int (x2))] → f_E_number_4 n g x1 x2 = some (r0, u0) → W p l e (headSpec (qs_ws y_E_number b_E_number 3 (some .int)) ({ frames := 0, cells := 0, slots := 0, locals := 0 } : Room)).room s m ([.ref (h 1)] : List Value).toArray below meth cd H locs 0 0 (MQ below (va_Qi (fun (r : Int32) (u : Sg) => r = r0 ∧ u = u0) (qs_at dC dI h c A) A) ([.ref (h 1)] : List Value).toArray s 0 0 A) (F0 m 4 ls []) := by
    intro n
    induction n with
    | zero =>
      intro g x1 x2 H locs ls hP hD hS hl hF
      exact nomatch (show (none : Option (Int32 × Sg)) = some _ from hF)
    | succ n ih =>
      intro g x1 x2 H locs ls hP hD hS hl hF
      rw [f_E_number_4] at hF
      refine lv_iload_n hx hb d_E_number_4 rfl (lv_at hl 2 rfl) ?_
      refine lv_bipush (v := 12) hx hb d_E_number_5 (by decide) ?_
      refine lv_icmp_ge (tgt := 28) hx hb d_E_number_7 (by decide) (fun c1 => ?_) (fun c1 => ?_)
      · have hF := qs_pos c1 hF
        refine lv_iload_n hx hb d_E_number_28 rfl (lv_at hl 1 rfl) ?_
        obtain ⟨h8, h9⟩ := qs_ret hF
        exact W.iret (v := x1) hx hb hr (fun t ht hW => ⟨⟨x1, g, rfl, ⟨h8, h9⟩, by rw [ht]; exact hP, va_K.moved hW.alike hK, hD⟩, hS.F ht⟩) hS.2.2 d_E_number_29
      · have hF := qs_neg c1 hF
        refine lv_aload_n hx hb d_E_number_10 rfl (lv_at hl 0 rfl) ?_
        refine va_get (D := (dC, dI)) (ci := 0) (v := .ref (h 7)) (C := R_E) (T := T_E) (N := 2) hx hb hg in_E hown hK hP 1 rfl rfl 0 (by decide) (hg _ t_30) (fun _ h9 => h9) rfl d_E_number_11 ?_
        refine lv_iload_n hx hb d_E_number_14 rfl (lv_at hl 2 rfl) ?_
        obtain ⟨c2, hF⟩ := qs_in_some hF
        refine va_zald hx hb hK hP 7 0 rfl rfl c2 d_E_number_15 ?_
        refine lv_if_eq (tgt := 22) hx hb d_E_number_16 (by decide) (fun c3 => ?_) (fun c3 => ?_)
        · have hF := qs_pos c3 hF
          exact kb_22 _ ih g (x1) (x2) H locs ls hP hD hS (lv_sub hl [0, 1, 2] rfl) hF
        · have hF := qs_neg c3 hF
          refine lv_iinc (v := x1 + 1) (lv' := [(1, .int (x1 + 1)), (0, .ref (h 1)), (2, .int (x2))]) hx hb d_E_number_19 hl (k := 1) rfl (by rfl) (by decide) rfl (fun ls hl => ?_)
          exact kb_22 _ ih g (x1 + 1) (x2) H locs ls hP hD hS (lv_sub hl [1, 0, 2] rfl) hF
  have hl := lv_entry ([.ref (h 1)] : List Value) (n := 3) (Nat.le_of_ble_eq_true rfl)
  rw [lg_entry_eq]
  generalize (lg_sl ([.ref (h 1)] : List Value) ++ List.replicate (3 - (lg_sl ([.ref (h 1)] : List Value)).length) Slot.unset).toArray = ls at hl ⊢
  have hl : lv_has ls 3 [(0, .ref (h 1))] := hl
  unfold f_E_number at hF
  obtain ⟨H, hHe⟩ : ∃ H, H = s.heap := ⟨_, rfl⟩
  obtain ⟨locs, hLe⟩ : ∃ L : List Loc, L = [] := ⟨_, rfl⟩
  rw [← hHe] at hP ⊢
  rw [← hLe]
  have hS : va_S A s.heap H locs := by rw [hHe, hLe]; exact hS
  refine lv_iconst (v := 0) hx hb d_E_number_0 (by decide) ?_
  refine lv_istore_n (lv' := [(1, .int (0)), (0, .ref (h 1))]) hx hb d_E_number_1 rfl hl (by decide) rfl (fun ls hl => ?_)
  refine lv_iconst (v := 0) hx hb d_E_number_2 (by decide) ?_
  refine lv_istore_n (lv' := [(2, .int (0)), (1, .int (0)), (0, .ref (h 1))]) hx hb d_E_number_3 rfl hl (by decide) rfl (fun ls hl => ?_)
  exact kb_4 200 g (0) (0) H locs ls hP hD hS (lv_sub hl [2, 1, 0] rfl) hF

theorem d_E_create_0 : decode b_E_create 0 = .ok (.iconst 0, 1) := by decide +kernel
theorem d_E_create_1 : decode b_E_create 1 = .ok (.istore_n 1, 1) := by decide +kernel
theorem d_E_create_2 : decode b_E_create 2 = .ok (.iload_n 1, 1) := by decide +kernel
theorem d_E_create_3 : decode b_E_create 3 = .ok (.bipush 12, 2) := by decide +kernel
theorem d_E_create_5 : decode b_E_create 5 = .ok (.if_icmp .ge 27, 3) := by decide +kernel
theorem d_E_create_8 : decode b_E_create 8 = .ok (.aload_n 0, 1) := by decide +kernel
theorem d_E_create_9 : decode b_E_create 9 = .ok (.getfield 9, 3) := by decide +kernel
theorem d_E_create_12 : decode b_E_create 12 = .ok (.iload_n 1, 1) := by decide +kernel
theorem d_E_create_13 : decode b_E_create 13 = .ok (.baload, 1) := by decide +kernel
theorem d_E_create_14 : decode b_E_create 14 = .ok (.ifCond .ne 12, 3) := by decide +kernel
theorem d_E_create_17 : decode b_E_create 17 = .ok (.aload_n 0, 1) := by decide +kernel
theorem d_E_create_18 : decode b_E_create 18 = .ok (.getfield 9, 3) := by decide +kernel
theorem d_E_create_21 : decode b_E_create 21 = .ok (.iload_n 1, 1) := by decide +kernel
theorem d_E_create_22 : decode b_E_create 22 = .ok (.iconst 1, 1) := by decide +kernel
theorem d_E_create_23 : decode b_E_create 23 = .ok (.bastore, 1) := by decide +kernel
theorem d_E_create_24 : decode b_E_create 24 = .ok (.iload_n 1, 1) := by decide +kernel
theorem d_E_create_25 : decode b_E_create 25 = .ok (.ireturn, 1) := by decide +kernel
theorem d_E_create_26 : decode b_E_create 26 = .ok (.iinc 1 1, 3) := by decide +kernel
theorem d_E_create_29 : decode b_E_create 29 = .ok (.goto (-27), 3) := by decide +kernel
theorem d_E_create_32 : decode b_E_create 32 = .ok (.iconst (-1), 1) := by decide +kernel
theorem d_E_create_33 : decode b_E_create 33 = .ok (.ireturn, 1) := by decide +kernel
def f_E_create_2  : Nat → Sg → Int32 → Option (Int32 × Sg)
  | 0, _, _ => none
  | n + 1, g, x1 => (if 12 ≤ x1 then (some ((-1), g)) else (qs_in (x1) 12 (if (g 7 x1.toNatClampNeg) = 0 then (qs_in (x1) 12 (qs_st (qs_a g 7 x1.toNatClampNeg (vp_nar .boolean (1 : Int32))) fun u5 => (some (x1, u5)))) else (f_E_create_2 n g (x1 + 1)))))
def f_E_create (g : Sg)  : Option (Int32 × Sg) := (f_E_create_2 200 g (0))
set_option maxHeartbeats 4000000 in
set_option maxRecDepth 100000 in
theorem c_E_create (l : Launch) (dC : Nat → ClassId) (dI : Nat → Nat → Nat) (h : Nat → Nat) (c : Nat → ClassId) (sz : Nat) (g : Sg)  (r0 : Int32) (u0 : Sg) (hF : f_E_create g  = some (r0, u0)) : Met l y_E_create (qs_ws y_E_create b_E_create 2 (some .int)) ({ frames := 0, cells := 0, slots := 0, locals := 0 } : Room) (va_Pc ([.ref (h 1)] : List Value) (fun U => U.heap.size = sz ∧ va_P (dC, dI) vwCl (qs_W h c g) U.heap ∧ va_K (dC, dI) vwCl (qs_T c) U ∧ va_D (fun _ => True) (qs_W h c g) ∧ qs_N U)) (va_Qi (fun (r : Int32) (u : Sg) => r = r0 ∧ u = u0) (qs_at dC dI h c (va_A (qs_W h c g) sz)) (va_A (qs_W h c g) sz)) 0 0 (va_A (qs_W h c g) sz) := by
  refine Met.ofW (cc := b_E_create) (maxL := 2) (ret := (some .int)) (by decide +kernel) rfl ?_
  intro p e s m args below meth cd s₁ B hml hv
  obtain ⟨rfl, hsz, hP, hK, hD0, hNs⟩ := hv
  have hx := B.exec
  have hb := B.bytes
  have hr := B.returns
  have hts := atoms_spec (ws := (qs_ws y_E_create b_E_create 2 (some .int))) B.pre
  have hg : ∀ w ∈ qs_gt, w.before _ s = true := fun w h => hts w (List.mem_cons_of_mem _ h)
  have hown : s.vm.findClass R_E = some m.cls := findClass_of_methodNamed B.named
  have hlocks := B.notSynchronized
  subst hsz
  have hD := hD0.self (sz := s.heap.size)
  generalize hAe : va_A (qs_W h c g) s.heap.size = A at hD ⊢
  have hA : ∀ q : Nat, s.heap.size ≤ q → A q := fun q h => by rw [← hAe]; exact Or.inr h
  have hS : va_S A s.heap s.heap [] := va_S.rf
  have kb_2 : ∀ n : Nat, ∀ (g : Sg) (x1 : Int32) (H : Heap) (locs : List Loc) (ls : Array Slot), va_P (dC, dI) vwCl (qs_W h c g) H → va_D A (qs_W h c g) → va_S A s.heap H locs → lv_has ls 2 [(0, .ref (h 1)), (1, .int (x1))] → f_E_create_2 n g x1 = some (r0, u0) → W p l e (headSpec (qs_ws y_E_create b_E_create 2 (some .int)) ({ frames := 0, cells := 0, slots := 0, locals := 0 } : Room)).room s m ([.ref (h 1)] : List Value).toArray below meth cd H locs 0 0 (MQ below (va_Qi (fun (r : Int32) (u : Sg) => r = r0 ∧ u = u0) (qs_at dC dI h c A) A) ([.ref (h 1)] : List Value).toArray s 0 0 A) (F0 m 2 ls []) := by
    intro n
    induction n with
    | zero =>
      intro g x1 H locs ls hP hD hS hl hF
      exact nomatch (show (none : Option (Int32 × Sg)) = some _ from hF)
    | succ n ih =>
      intro g x1 H locs ls hP hD hS hl hF
      rw [f_E_create_2] at hF
      refine lv_iload_n hx hb d_E_create_2 rfl (lv_at hl 1 rfl) ?_
      refine lv_bipush (v := 12) hx hb d_E_create_3 (by decide) ?_
      refine lv_icmp_ge (tgt := 32) hx hb d_E_create_5 (by decide) (fun c1 => ?_) (fun c1 => ?_)
      · have hF := qs_pos c1 hF
        refine lv_iconst (v := (-1)) hx hb d_E_create_32 (by decide) ?_
        obtain ⟨h8, h9⟩ := qs_ret hF
        exact W.iret (v := (-1)) hx hb hr (fun t ht hW => ⟨⟨(-1), g, rfl, ⟨h8, h9⟩, by rw [ht]; exact hP, va_K.moved hW.alike hK, hD⟩, hS.F ht⟩) hS.2.2 d_E_create_33
      · have hF := qs_neg c1 hF
        refine lv_aload_n hx hb d_E_create_8 rfl (lv_at hl 0 rfl) ?_
        refine va_get (D := (dC, dI)) (ci := 0) (v := .ref (h 7)) (C := R_E) (T := T_E) (N := 2) hx hb hg in_E hown hK hP 1 rfl rfl 0 (by decide) (hg _ t_30) (fun _ h9 => h9) rfl d_E_create_9 ?_
        refine lv_iload_n hx hb d_E_create_12 rfl (lv_at hl 1 rfl) ?_
        obtain ⟨c2, hF⟩ := qs_in_some hF
        refine va_zald hx hb hK hP 7 0 rfl rfl c2 d_E_create_13 ?_
        refine lv_if_ne (tgt := 26) hx hb d_E_create_14 (by decide) (fun c3 => ?_) (fun c3 => ?_)
        · have hF := qs_neg c3 hF
          refine lv_iinc (v := x1 + 1) (lv' := [(1, .int (x1 + 1)), (0, .ref (h 1))]) hx hb d_E_create_26 hl (k := 1) rfl (by rfl) (by decide) rfl (fun ls hl => ?_)
          refine lv_goto (tgt := 2) hx hb d_E_create_29 (by decide) ?_
          exact ih g (x1 + 1) H locs ls hP hD hS (lv_sub hl [1, 0] rfl) hF
        · have hF := qs_pos c3 hF
          refine lv_aload_n hx hb d_E_create_17 rfl (lv_at hl 0 rfl) ?_
          refine va_get (D := (dC, dI)) (ci := 0) (v := .ref (h 7)) (C := R_E) (T := T_E) (N := 2) hx hb hg in_E hown hK hP 1 rfl rfl 0 (by decide) (hg _ t_30) (fun _ h9 => h9) rfl d_E_create_18 ?_
          refine lv_iload_n hx hb d_E_create_21 rfl (lv_at hl 1 rfl) ?_
          refine lv_iconst (v := 1) hx hb d_E_create_22 (by decide) ?_
          obtain ⟨c4, hF⟩ := qs_in_some hF
          refine va_zast hx hb hK hP hD hS 7 0 rfl rfl c4 d_E_create_23 (fun H locs hP hD hS => ?_)
          obtain ⟨u5, hu5, hF⟩ := qs_st_some hF
          have hP : va_P (dC, dI) vwCl (qs_W h c u5) H := by rw [hu5]; exact hP
          have hD : va_D A (qs_W h c u5) := by rw [hu5]; exact hD
          clear hu5
          refine lv_iload_n hx hb d_E_create_24 rfl (lv_at hl 1 rfl) ?_
          obtain ⟨h8, h9⟩ := qs_ret hF
          exact W.iret (v := x1) hx hb hr (fun t ht hW => ⟨⟨x1, u5, rfl, ⟨h8, h9⟩, by rw [ht]; exact hP, va_K.moved hW.alike hK, hD⟩, hS.F ht⟩) hS.2.2 d_E_create_25
  have hl := lv_entry ([.ref (h 1)] : List Value) (n := 2) (Nat.le_of_ble_eq_true rfl)
  rw [lg_entry_eq]
  generalize (lg_sl ([.ref (h 1)] : List Value) ++ List.replicate (2 - (lg_sl ([.ref (h 1)] : List Value)).length) Slot.unset).toArray = ls at hl ⊢
  have hl : lv_has ls 2 [(0, .ref (h 1))] := hl
  unfold f_E_create at hF
  obtain ⟨H, hHe⟩ : ∃ H, H = s.heap := ⟨_, rfl⟩
  obtain ⟨locs, hLe⟩ : ∃ L : List Loc, L = [] := ⟨_, rfl⟩
  rw [← hHe] at hP ⊢
  rw [← hLe]
  have hS : va_S A s.heap H locs := by rw [hHe, hLe]; exact hS
  refine lv_iconst (v := 0) hx hb d_E_create_0 (by decide) ?_
  refine lv_istore_n (lv' := [(1, .int (0)), (0, .ref (h 1))]) hx hb d_E_create_1 rfl hl (by decide) rfl (fun ls hl => ?_)
  exact kb_2 200 g (0) H locs ls hP hD hS (lv_sub hl [1, 0] rfl) hF

theorem d_E_field_0 : decode b_E_field 0 = .ok (.iload_n 1, 1) := by decide +kernel
theorem d_E_field_1 : decode b_E_field 1 = .ok (.ifCond .lt 9, 3) := by decide +kernel
theorem d_E_field_4 : decode b_E_field 4 = .ok (.iload_n 1, 1) := by decide +kernel
theorem d_E_field_5 : decode b_E_field 5 = .ok (.bipush 12, 2) := by decide +kernel
theorem d_E_field_7 : decode b_E_field 7 = .ok (.if_icmp .lt 5, 3) := by decide +kernel
theorem d_E_field_10 : decode b_E_field 10 = .ok (.iconst 0, 1) := by decide +kernel
theorem d_E_field_11 : decode b_E_field 11 = .ok (.ireturn, 1) := by decide +kernel
theorem d_E_field_12 : decode b_E_field 12 = .ok (.aload_n 0, 1) := by decide +kernel
theorem d_E_field_13 : decode b_E_field 13 = .ok (.getfield 15, 3) := by decide +kernel
theorem d_E_field_16 : decode b_E_field 16 = .ok (.iload_n 1, 1) := by decide +kernel
theorem d_E_field_17 : decode b_E_field 17 = .ok (.bipush 16, 2) := by decide +kernel
theorem d_E_field_19 : decode b_E_field 19 = .ok (.imul, 1) := by decide +kernel
theorem d_E_field_20 : decode b_E_field 20 = .ok (.iload_n 2, 1) := by decide +kernel
theorem d_E_field_21 : decode b_E_field 21 = .ok (.iadd, 1) := by decide +kernel
theorem d_E_field_22 : decode b_E_field 22 = .ok (.iaload, 1) := by decide +kernel
theorem d_E_field_23 : decode b_E_field 23 = .ok (.ireturn, 1) := by decide +kernel
def f_E_field (g : Sg) (a1 : Int32) (a2 : Int32) : Option (Int32 × Sg) := (if a1 < 0 then (some (0, g)) else (if a1 < 12 then (qs_in ((a1 * 16) + a2) 192 (some (g 8 ((a1 * 16) + a2).toNatClampNeg, g))) else (some (0, g))))
set_option maxHeartbeats 4000000 in
set_option maxRecDepth 100000 in
theorem c_E_field (l : Launch) (dC : Nat → ClassId) (dI : Nat → Nat → Nat) (h : Nat → Nat) (c : Nat → ClassId) (sz : Nat) (g : Sg) (a1 : Int32) (a2 : Int32) (r0 : Int32) (u0 : Sg) (hF : f_E_field g a1 a2 = some (r0, u0)) : Met l y_E_field (qs_ws y_E_field b_E_field 3 (some .int)) ({ frames := 0, cells := 0, slots := 0, locals := 0 } : Room) (va_Pc ([.ref (h 1), .int a1, .int a2] : List Value) (fun U => U.heap.size = sz ∧ va_P (dC, dI) vwCl (qs_W h c g) U.heap ∧ va_K (dC, dI) vwCl (qs_T c) U ∧ va_D (fun _ => True) (qs_W h c g) ∧ qs_N U)) (va_Qi (fun (r : Int32) (u : Sg) => r = r0 ∧ u = u0) (qs_at dC dI h c (va_A (qs_W h c g) sz)) (va_A (qs_W h c g) sz)) 0 0 (va_A (qs_W h c g) sz) := by
  refine Met.ofW (cc := b_E_field) (maxL := 3) (ret := (some .int)) (by decide +kernel) rfl ?_
  intro p e s m args below meth cd s₁ B hml hv
  obtain ⟨rfl, hsz, hP, hK, hD0, hNs⟩ := hv
  have hx := B.exec
  have hb := B.bytes
  have hr := B.returns
  have hts := atoms_spec (ws := (qs_ws y_E_field b_E_field 3 (some .int))) B.pre
  have hg : ∀ w ∈ qs_gt, w.before _ s = true := fun w h => hts w (List.mem_cons_of_mem _ h)
  have hown : s.vm.findClass R_E = some m.cls := findClass_of_methodNamed B.named
  have hlocks := B.notSynchronized
  subst hsz
  have hD := hD0.self (sz := s.heap.size)
  generalize hAe : va_A (qs_W h c g) s.heap.size = A at hD ⊢
  have hA : ∀ q : Nat, s.heap.size ≤ q → A q := fun q h => by rw [← hAe]; exact Or.inr h
  have hS : va_S A s.heap s.heap [] := va_S.rf
  have hl := lv_entry ([.ref (h 1), .int a1, .int a2] : List Value) (n := 3) (Nat.le_of_ble_eq_true rfl)
  rw [lg_entry_eq]
  generalize (lg_sl ([.ref (h 1), .int a1, .int a2] : List Value) ++ List.replicate (3 - (lg_sl ([.ref (h 1), .int a1, .int a2] : List Value)).length) Slot.unset).toArray = ls at hl ⊢
  have hl : lv_has ls 3 [(0, .ref (h 1)), (1, .int (a1)), (2, .int (a2))] := hl
  unfold f_E_field at hF
  obtain ⟨H, hHe⟩ : ∃ H, H = s.heap := ⟨_, rfl⟩
  obtain ⟨locs, hLe⟩ : ∃ L : List Loc, L = [] := ⟨_, rfl⟩
  rw [← hHe] at hP ⊢
  rw [← hLe]
  have hS : va_S A s.heap H locs := by rw [hHe, hLe]; exact hS
  refine lv_iload_n hx hb d_E_field_0 rfl (lv_at hl 1 rfl) ?_
  refine lv_if_lt (tgt := 10) hx hb d_E_field_1 (by decide) (fun c1 => ?_) (fun c1 => ?_)
  · have hF := qs_pos c1 hF
    refine lv_iconst (v := 0) hx hb d_E_field_10 (by decide) ?_
    obtain ⟨h8, h9⟩ := qs_ret hF
    exact W.iret (v := 0) hx hb hr (fun t ht hW => ⟨⟨0, g, rfl, ⟨h8, h9⟩, by rw [ht]; exact hP, va_K.moved hW.alike hK, hD⟩, hS.F ht⟩) hS.2.2 d_E_field_11
  · have hF := qs_neg c1 hF
    refine lv_iload_n hx hb d_E_field_4 rfl (lv_at hl 1 rfl) ?_
    refine lv_bipush (v := 12) hx hb d_E_field_5 (by decide) ?_
    refine lv_icmp_lt (tgt := 12) hx hb d_E_field_7 (by decide) (fun c2 => ?_) (fun c2 => ?_)
    · have hF := qs_pos c2 hF
      refine lv_aload_n hx hb d_E_field_12 rfl (lv_at hl 0 rfl) ?_
      refine va_get (D := (dC, dI)) (ci := 0) (v := .ref (h 8)) (C := R_E) (T := T_E) (N := 2) hx hb hg in_E hown hK hP 1 rfl rfl 1 (by decide) (hg _ t_31) (fun _ h9 => h9) rfl d_E_field_13 ?_
      refine lv_iload_n hx hb d_E_field_16 rfl (lv_at hl 1 rfl) ?_
      refine lv_bipush (v := 16) hx hb d_E_field_17 (by decide) ?_
      refine lv_imul hx hb d_E_field_19 ?_
      refine lv_iload_n hx hb d_E_field_20 rfl (lv_at hl 2 rfl) ?_
      refine lv_iadd hx hb d_E_field_21 ?_
      obtain ⟨c3, hF⟩ := qs_in_some hF
      refine va_iald hx hb hK hP 8 1 rfl rfl c3 d_E_field_22 ?_
      obtain ⟨h8, h9⟩ := qs_ret hF
      exact W.iret (v := g 8 ((a1 * 16) + a2).toNatClampNeg) hx hb hr (fun t ht hW => ⟨⟨(g 8 ((a1 * 16) + a2).toNatClampNeg), g, rfl, ⟨h8, h9⟩, by rw [ht]; exact hP, va_K.moved hW.alike hK, hD⟩, hS.F ht⟩) hS.2.2 d_E_field_23
    · have hF := qs_neg c2 hF
      refine lv_iconst (v := 0) hx hb d_E_field_10 (by decide) ?_
      obtain ⟨h8, h9⟩ := qs_ret hF
      exact W.iret (v := 0) hx hb hr (fun t ht hW => ⟨⟨0, g, rfl, ⟨h8, h9⟩, by rw [ht]; exact hP, va_K.moved hW.alike hK, hD⟩, hS.F ht⟩) hS.2.2 d_E_field_11
