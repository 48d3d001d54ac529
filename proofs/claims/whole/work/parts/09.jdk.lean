theorem d_J_floorDiv_JJJ_0 : decode b_J_floorDiv_JJJ 0 = .ok (.lload_n 0, 1) := by decide +kernel
theorem d_J_floorDiv_JJJ_1 : decode b_J_floorDiv_JJJ 1 = .ok (.lload_n 2, 1) := by decide +kernel
theorem d_J_floorDiv_JJJ_2 : decode b_J_floorDiv_JJJ 2 = .ok (.ldiv, 1) := by decide +kernel
theorem d_J_floorDiv_JJJ_3 : decode b_J_floorDiv_JJJ 3 = .ok (.lstore 4, 2) := by decide +kernel
theorem d_J_floorDiv_JJJ_5 : decode b_J_floorDiv_JJJ 5 = .ok (.lload_n 0, 1) := by decide +kernel
theorem d_J_floorDiv_JJJ_6 : decode b_J_floorDiv_JJJ 6 = .ok (.lload_n 2, 1) := by decide +kernel
theorem d_J_floorDiv_JJJ_7 : decode b_J_floorDiv_JJJ 7 = .ok (.lxor, 1) := by decide +kernel
theorem d_J_floorDiv_JJJ_8 : decode b_J_floorDiv_JJJ 8 = .ok (.lconst 0, 1) := by decide +kernel
theorem d_J_floorDiv_JJJ_9 : decode b_J_floorDiv_JJJ 9 = .ok (.lcmp, 1) := by decide +kernel
theorem d_J_floorDiv_JJJ_10 : decode b_J_floorDiv_JJJ 10 = .ok (.ifCond .ge 17, 3) := by decide +kernel
theorem d_J_floorDiv_JJJ_13 : decode b_J_floorDiv_JJJ 13 = .ok (.lload 4, 2) := by decide +kernel
theorem d_J_floorDiv_JJJ_15 : decode b_J_floorDiv_JJJ 15 = .ok (.lload_n 2, 1) := by decide +kernel
theorem d_J_floorDiv_JJJ_16 : decode b_J_floorDiv_JJJ 16 = .ok (.lmul, 1) := by decide +kernel
theorem d_J_floorDiv_JJJ_17 : decode b_J_floorDiv_JJJ 17 = .ok (.lload_n 0, 1) := by decide +kernel
theorem d_J_floorDiv_JJJ_18 : decode b_J_floorDiv_JJJ 18 = .ok (.lcmp, 1) := by decide +kernel
theorem d_J_floorDiv_JJJ_19 : decode b_J_floorDiv_JJJ 19 = .ok (.ifCond .eq 8, 3) := by decide +kernel
theorem d_J_floorDiv_JJJ_22 : decode b_J_floorDiv_JJJ 22 = .ok (.lload 4, 2) := by decide +kernel
theorem d_J_floorDiv_JJJ_24 : decode b_J_floorDiv_JJJ 24 = .ok (.lconst 1, 1) := by decide +kernel
theorem d_J_floorDiv_JJJ_25 : decode b_J_floorDiv_JJJ 25 = .ok (.lsub, 1) := by decide +kernel
theorem d_J_floorDiv_JJJ_26 : decode b_J_floorDiv_JJJ 26 = .ok (.lreturn, 1) := by decide +kernel
theorem d_J_floorDiv_JJJ_27 : decode b_J_floorDiv_JJJ 27 = .ok (.lload 4, 2) := by decide +kernel
theorem d_J_floorDiv_JJJ_29 : decode b_J_floorDiv_JJJ 29 = .ok (.lreturn, 1) := by decide +kernel
def f_J_floorDiv_JJJ (a1 : Int64) (a2 : Int64) : Option Int64 := (qs_nzl (a2) (if 0 ≤ (lg_cmp (a1 ^^^ a2) (0 : Int64)) then (some (a1 / a2)) else (if (lg_cmp ((a1 / a2) * a2) a1) = 0 then (some (a1 / a2)) else (some ((a1 / a2) - (1 : Int64))))))
set_option maxHeartbeats 4000000 in
set_option maxRecDepth 100000 in
theorem c_J_floorDiv_JJJ (l : Launch) (sz : Nat) (a1 : Int64) (a2 : Int64) (r0 : Int64) (hF : f_J_floorDiv_JJJ a1 a2 = some r0) : Met l y_J_floorDiv_JJJ (qs_ws y_J_floorDiv_JJJ b_J_floorDiv_JJJ 6 (some .long)) ({ frames := 0, cells := 0, slots := 0, locals := 0 } : Room) (va_Pc ([.long a1, .long a2] : List Value) (fun U => U.heap.size = sz ∧ qs_N U)) (va_Ql (fun (r : Int64) (_ : Unit) => r = r0) (fun _ _ => True) (va_A [] sz)) 0 0 (va_A [] sz) := by
  refine va_MetF (cc := b_J_floorDiv_JJJ) (maxL := 6) (ret := (some .long)) (by decide +kernel) rfl ?_
  intro p e s m args below meth cd s₁ B hml hv
  obtain ⟨rfl, hsz, hNs⟩ := hv
  have hx := B.exec
  have hb := B.bytes
  have hr := B.returns
  have hts := atoms_spec (ws := (qs_ws y_J_floorDiv_JJJ b_J_floorDiv_JJJ 6 (some .long))) B.pre
  have hg : ∀ w ∈ qs_gt, w.before _ s = true := fun w h => hts w (List.mem_cons_of_mem _ h)
  have hown : s.vm.findClass R_J = some m.cls := findClass_of_methodNamed B.named
  have hlocks := B.notSynchronized
  subst hsz
  have hD : va_D (va_A [] s.heap.size) [] := qs_D0
  have hP : va_P qs_G0 [] [] s.heap := qs_P0
  generalize hAe : va_A ([]) s.heap.size = A at hD ⊢
  have hA : ∀ q : Nat, s.heap.size ≤ q → A q := fun q h => by rw [← hAe]; exact Or.inr h
  have hS : va_S A s.heap s.heap [] := va_S.rf
  have hl := lv_entry ([.long a1, .long a2] : List Value) (n := 6) (Nat.le_of_ble_eq_true rfl)
  rw [lg_entry_eq]
  generalize (lg_sl ([.long a1, .long a2] : List Value) ++ List.replicate (6 - (lg_sl ([.long a1, .long a2] : List Value)).length) Slot.unset).toArray = ls at hl ⊢
  have hl : lv_has ls 6 [(0, .long (a1)), (2, .long (a2))] := hl
  unfold f_J_floorDiv_JJJ at hF
  obtain ⟨H, hHe⟩ : ∃ H, H = s.heap := ⟨_, rfl⟩
  obtain ⟨locs, hLe⟩ : ∃ L : List Loc, L = [] := ⟨_, rfl⟩
  rw [← hHe] at hP ⊢
  rw [← hLe]
  have hS : va_S A s.heap H locs := by rw [hHe, hLe]; exact hS
  refine lv_lload_n hx hb d_J_floorDiv_JJJ_0 rfl (lv_at hl 0 rfl) ?_
  refine lv_lload_n hx hb d_J_floorDiv_JJJ_1 rfl (lv_at hl 1 rfl) ?_
  obtain ⟨c1, hF⟩ := qs_nzl_some hF
  refine lv_ldiv hx hb d_J_floorDiv_JJJ_2 c1 ?_
  refine lv_lstore (lv' := [(4, .long (a1 / a2)), (0, .long (a1)), (2, .long (a2))]) hx hb d_J_floorDiv_JJJ_3 hl (by decide) rfl (fun ls hl => ?_)
  refine lv_lload_n hx hb d_J_floorDiv_JJJ_5 rfl (lv_at hl 1 rfl) ?_
  refine lv_lload_n hx hb d_J_floorDiv_JJJ_6 rfl (lv_at hl 2 rfl) ?_
  refine lv_lxor hx hb d_J_floorDiv_JJJ_7 ?_
  refine lv_lconst (v := 0) hx hb d_J_floorDiv_JJJ_8 (by decide) ?_
  refine W.lcmp hx hb d_J_floorDiv_JJJ_9 ?_
  refine lv_if_ge (tgt := 27) hx hb d_J_floorDiv_JJJ_10 (by decide) (fun c2 => ?_) (fun c2 => ?_)
  · have hF := qs_pos c2 hF
    refine lv_lload hx hb d_J_floorDiv_JJJ_27 (lv_at hl 0 rfl) ?_
    have h9 := Option.some.inj hF
    exact W.lret (v := a1 / a2) hx hb hr (fun t ht hW => ⟨⟨(a1 / a2), (), rfl, h9, trivial⟩, hS.F ht⟩) hS.2.2 d_J_floorDiv_JJJ_29
  · have hF := qs_neg c2 hF
    refine lv_lload hx hb d_J_floorDiv_JJJ_13 (lv_at hl 0 rfl) ?_
    refine lv_lload_n hx hb d_J_floorDiv_JJJ_15 rfl (lv_at hl 2 rfl) ?_
    refine lv_lmul hx hb d_J_floorDiv_JJJ_16 ?_
    refine lv_lload_n hx hb d_J_floorDiv_JJJ_17 rfl (lv_at hl 1 rfl) ?_
    refine W.lcmp hx hb d_J_floorDiv_JJJ_18 ?_
    refine lv_if_eq (tgt := 27) hx hb d_J_floorDiv_JJJ_19 (by decide) (fun c3 => ?_) (fun c3 => ?_)
    · have hF := qs_pos c3 hF
      refine lv_lload hx hb d_J_floorDiv_JJJ_27 (lv_at hl 0 rfl) ?_
      have h9 := Option.some.inj hF
      exact W.lret (v := a1 / a2) hx hb hr (fun t ht hW => ⟨⟨(a1 / a2), (), rfl, h9, trivial⟩, hS.F ht⟩) hS.2.2 d_J_floorDiv_JJJ_29
    · have hF := qs_neg c3 hF
      refine lv_lload hx hb d_J_floorDiv_JJJ_22 (lv_at hl 0 rfl) ?_
      refine lv_lconst (v := 1) hx hb d_J_floorDiv_JJJ_24 (by decide) ?_
      refine lv_lsub hx hb d_J_floorDiv_JJJ_25 ?_
      have h9 := Option.some.inj hF
      exact W.lret (v := (a1 / a2) - (1 : Int64)) hx hb hr (fun t ht hW => ⟨⟨((a1 / a2) - (1 : Int64)), (), rfl, h9, trivial⟩, hS.F ht⟩) hS.2.2 d_J_floorDiv_JJJ_26

theorem d_J_floorDiv_III_0 : decode b_J_floorDiv_III 0 = .ok (.iload_n 0, 1) := by decide +kernel
theorem d_J_floorDiv_III_1 : decode b_J_floorDiv_III 1 = .ok (.iload_n 1, 1) := by decide +kernel
theorem d_J_floorDiv_III_2 : decode b_J_floorDiv_III 2 = .ok (.idiv, 1) := by decide +kernel
theorem d_J_floorDiv_III_3 : decode b_J_floorDiv_III 3 = .ok (.istore_n 2, 1) := by decide +kernel
theorem d_J_floorDiv_III_4 : decode b_J_floorDiv_III 4 = .ok (.iload_n 0, 1) := by decide +kernel
theorem d_J_floorDiv_III_5 : decode b_J_floorDiv_III 5 = .ok (.iload_n 1, 1) := by decide +kernel
theorem d_J_floorDiv_III_6 : decode b_J_floorDiv_III 6 = .ok (.ixor, 1) := by decide +kernel
theorem d_J_floorDiv_III_7 : decode b_J_floorDiv_III 7 = .ok (.ifCond .ge 14, 3) := by decide +kernel
theorem d_J_floorDiv_III_10 : decode b_J_floorDiv_III 10 = .ok (.iload_n 2, 1) := by decide +kernel
theorem d_J_floorDiv_III_11 : decode b_J_floorDiv_III 11 = .ok (.iload_n 1, 1) := by decide +kernel
theorem d_J_floorDiv_III_12 : decode b_J_floorDiv_III 12 = .ok (.imul, 1) := by decide +kernel
theorem d_J_floorDiv_III_13 : decode b_J_floorDiv_III 13 = .ok (.iload_n 0, 1) := by decide +kernel
theorem d_J_floorDiv_III_14 : decode b_J_floorDiv_III 14 = .ok (.if_icmp .eq 7, 3) := by decide +kernel
theorem d_J_floorDiv_III_17 : decode b_J_floorDiv_III 17 = .ok (.iload_n 2, 1) := by decide +kernel
theorem d_J_floorDiv_III_18 : decode b_J_floorDiv_III 18 = .ok (.iconst 1, 1) := by decide +kernel
theorem d_J_floorDiv_III_19 : decode b_J_floorDiv_III 19 = .ok (.isub, 1) := by decide +kernel
theorem d_J_floorDiv_III_20 : decode b_J_floorDiv_III 20 = .ok (.ireturn, 1) := by decide +kernel
theorem d_J_floorDiv_III_21 : decode b_J_floorDiv_III 21 = .ok (.iload_n 2, 1) := by decide +kernel
theorem d_J_floorDiv_III_22 : decode b_J_floorDiv_III 22 = .ok (.ireturn, 1) := by decide +kernel
def f_J_floorDiv_III (a1 : Int32) (a2 : Int32) : Option Int32 := (qs_nzi (a2) (if 0 ≤ (a1 ^^^ a2) then (some (a1 / a2)) else (if ((a1 / a2) * a2) = a1 then (some (a1 / a2)) else (some ((a1 / a2) - 1)))))
set_option maxHeartbeats 4000000 in
set_option maxRecDepth 100000 in
theorem c_J_floorDiv_III (l : Launch) (sz : Nat) (a1 : Int32) (a2 : Int32) (r0 : Int32) (hF : f_J_floorDiv_III a1 a2 = some r0) : Met l y_J_floorDiv_III (qs_ws y_J_floorDiv_III b_J_floorDiv_III 3 (some .int)) ({ frames := 0, cells := 0, slots := 0, locals := 0 } : Room) (va_Pc ([.int a1, .int a2] : List Value) (fun U => U.heap.size = sz ∧ qs_N U)) (va_Qi (fun (r : Int32) (_ : Unit) => r = r0) (fun _ _ => True) (va_A [] sz)) 0 0 (va_A [] sz) := by
  refine va_MetF (cc := b_J_floorDiv_III) (maxL := 3) (ret := (some .int)) (by decide +kernel) rfl ?_
  intro p e s m args below meth cd s₁ B hml hv
  obtain ⟨rfl, hsz, hNs⟩ := hv
  have hx := B.exec
  have hb := B.bytes
  have hr := B.returns
  have hts := atoms_spec (ws := (qs_ws y_J_floorDiv_III b_J_floorDiv_III 3 (some .int))) B.pre
  have hg : ∀ w ∈ qs_gt, w.before _ s = true := fun w h => hts w (List.mem_cons_of_mem _ h)
  have hown : s.vm.findClass R_J = some m.cls := findClass_of_methodNamed B.named
  have hlocks := B.notSynchronized
  subst hsz
  have hD : va_D (va_A [] s.heap.size) [] := qs_D0
  have hP : va_P qs_G0 [] [] s.heap := qs_P0
  generalize hAe : va_A ([]) s.heap.size = A at hD ⊢
  have hA : ∀ q : Nat, s.heap.size ≤ q → A q := fun q h => by rw [← hAe]; exact Or.inr h
  have hS : va_S A s.heap s.heap [] := va_S.rf
  have hl := lv_entry ([.int a1, .int a2] : List Value) (n := 3) (Nat.le_of_ble_eq_true rfl)
  rw [lg_entry_eq]
  generalize (lg_sl ([.int a1, .int a2] : List Value) ++ List.replicate (3 - (lg_sl ([.int a1, .int a2] : List Value)).length) Slot.unset).toArray = ls at hl ⊢
  have hl : lv_has ls 3 [(0, .int (a1)), (1, .int (a2))] := hl
  unfold f_J_floorDiv_III at hF
  obtain ⟨H, hHe⟩ : ∃ H, H = s.heap := ⟨_, rfl⟩
  obtain ⟨locs, hLe⟩ : ∃ L : List Loc, L = [] := ⟨_, rfl⟩
  rw [← hHe] at hP ⊢
  rw [← hLe]
  have hS : va_S A s.heap H locs := by rw [hHe, hLe]; exact hS
  refine lv_iload_n hx hb d_J_floorDiv_III_0 rfl (lv_at hl 0 rfl) ?_
  refine lv_iload_n hx hb d_J_floorDiv_III_1 rfl (lv_at hl 1 rfl) ?_
  obtain ⟨c1, hF⟩ := qs_nzi_some hF
  refine lv_idiv hx hb d_J_floorDiv_III_2 c1 ?_
  refine lv_istore_n (lv' := [(2, .int (a1 / a2)), (0, .int (a1)), (1, .int (a2))]) hx hb d_J_floorDiv_III_3 rfl hl (by decide) rfl (fun ls hl => ?_)
  refine lv_iload_n hx hb d_J_floorDiv_III_4 rfl (lv_at hl 1 rfl) ?_
  refine lv_iload_n hx hb d_J_floorDiv_III_5 rfl (lv_at hl 2 rfl) ?_
  refine lv_ixor hx hb d_J_floorDiv_III_6 ?_
  refine lv_if_ge (tgt := 21) hx hb d_J_floorDiv_III_7 (by decide) (fun c2 => ?_) (fun c2 => ?_)
  · have hF := qs_pos c2 hF
    refine lv_iload_n hx hb d_J_floorDiv_III_21 rfl (lv_at hl 0 rfl) ?_
    have h9 := Option.some.inj hF
    exact W.iret (v := a1 / a2) hx hb hr (fun t ht hW => ⟨⟨(a1 / a2), (), rfl, h9, trivial⟩, hS.F ht⟩) hS.2.2 d_J_floorDiv_III_22
  · have hF := qs_neg c2 hF
    refine lv_iload_n hx hb d_J_floorDiv_III_10 rfl (lv_at hl 0 rfl) ?_
    refine lv_iload_n hx hb d_J_floorDiv_III_11 rfl (lv_at hl 2 rfl) ?_
    refine lv_imul hx hb d_J_floorDiv_III_12 ?_
    refine lv_iload_n hx hb d_J_floorDiv_III_13 rfl (lv_at hl 1 rfl) ?_
    refine lv_icmp_eq (tgt := 21) hx hb d_J_floorDiv_III_14 (by decide) (fun c3 => ?_) (fun c3 => ?_)
    · have hF := qs_pos c3 hF
      refine lv_iload_n hx hb d_J_floorDiv_III_21 rfl (lv_at hl 0 rfl) ?_
      have h9 := Option.some.inj hF
      exact W.iret (v := a1 / a2) hx hb hr (fun t ht hW => ⟨⟨(a1 / a2), (), rfl, h9, trivial⟩, hS.F ht⟩) hS.2.2 d_J_floorDiv_III_22
    · have hF := qs_neg c3 hF
      refine lv_iload_n hx hb d_J_floorDiv_III_17 rfl (lv_at hl 0 rfl) ?_
      refine lv_iconst (v := 1) hx hb d_J_floorDiv_III_18 (by decide) ?_
      refine lv_isub hx hb d_J_floorDiv_III_19 ?_
      have h9 := Option.some.inj hF
      exact W.iret (v := (a1 / a2) - 1) hx hb hr (fun t ht hW => ⟨⟨((a1 / a2) - 1), (), rfl, h9, trivial⟩, hS.F ht⟩) hS.2.2 d_J_floorDiv_III_20
