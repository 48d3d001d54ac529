theorem d_V_meet_0 : decode b_V_meet 0 = .ok (.iload_n 2, 1) := by decide +kernel
theorem d_V_meet_1 : decode b_V_meet 1 = .ok (.ifCond .lt 21, 3) := by decide +kernel
theorem d_V_meet_4 : decode b_V_meet 4 = .ok (.iload_n 2, 1) := by decide +kernel
theorem d_V_meet_5 : decode b_V_meet 5 = .ok (.aload_n 0, 1) := by decide +kernel
theorem d_V_meet_6 : decode b_V_meet 6 = .ok (.getfield 77, 3) := by decide +kernel
theorem d_V_meet_9 : decode b_V_meet 9 = .ok (.if_icmp .ge 13, 3) := by decide +kernel
theorem d_V_meet_12 : decode b_V_meet 12 = .ok (.aload_n 0, 1) := by decide +kernel
theorem d_V_meet_13 : decode b_V_meet 13 = .ok (.iload_n 2, 1) := by decide +kernel
theorem d_V_meet_14 : decode b_V_meet 14 = .ok (.putfield 77, 3) := by decide +kernel
theorem d_V_meet_17 : decode b_V_meet 17 = .ok (.aload_n 0, 1) := by decide +kernel
theorem d_V_meet_18 : decode b_V_meet 18 = .ok (.iload_n 1, 1) := by decide +kernel
theorem d_V_meet_19 : decode b_V_meet 19 = .ok (.putfield 80, 3) := by decide +kernel
theorem d_V_meet_22 : decode b_V_meet 22 = .ok (.return_, 1) := by decide +kernel
def f_V_meet (g : Sg) (a1 : Int32) (a2 : Int32) : Option (Unit × Sg) := (if a2 < 0 then (some ((), g)) else (if (g 28 0) ≤ a2 then (some ((), g)) else (qs_st (qs_i g 28 (a2)) fun u3 => (qs_st (qs_i u3 29 (a1)) fun u4 => (some ((), u4))))))
set_option maxHeartbeats 4000000 in
set_option maxRecDepth 100000 in
theorem c_V_meet (l : Launch) (dC : Nat → ClassId) (dI : Nat → Nat → Nat) (h : Nat → Nat) (c : Nat → ClassId) (sz : Nat) (g : Sg) (a1 : Int32) (a2 : Int32) (u0 : Sg) (hF : f_V_meet g a1 a2 = some ((), u0)) : Met l y_V_meet (qs_ws y_V_meet b_V_meet 3 none) ({ frames := 0, cells := 0, slots := 0, locals := 0 } : Room) (va_Pc ([.ref (h 5), .int a1, .int a2] : List Value) (fun U => U.heap.size = sz ∧ va_P (dC, dI) vwCl (qs_W h c g) U.heap ∧ va_K (dC, dI) vwCl (qs_T c) U ∧ va_D (fun _ => True) (qs_W h c g) ∧ qs_N U)) (va_Qv (fun (u : Sg) => u = u0) (qs_at dC dI h c (va_A (qs_W h c g) sz)) (va_A (qs_W h c g) sz)) 0 0 (va_A (qs_W h c g) sz) := by
  refine Met.ofW (cc := b_V_meet) (maxL := 3) (ret := none) (by decide +kernel) rfl ?_
  intro p e s m args below meth cd s₁ B hml hv
  obtain ⟨rfl, hsz, hP, hK, hD0, hNs⟩ := hv
  have hx := B.exec
  have hb := B.bytes
  have hr := B.returns
  have hts := atoms_spec (ws := (qs_ws y_V_meet b_V_meet 3 none)) B.pre
  have hg : ∀ w ∈ qs_gt, w.before _ s = true := fun w h => hts w (List.mem_cons_of_mem _ h)
  have hown : s.vm.findClass R_V = some m.cls := findClass_of_methodNamed B.named
  have hlocks := B.notSynchronized
  subst hsz
  have hD := hD0.self (sz := s.heap.size)
  generalize hAe : va_A (qs_W h c g) s.heap.size = A at hD ⊢
  have hA : ∀ q : Nat, s.heap.size ≤ q → A q := fun q h => by rw [← hAe]; exact Or.inr h
  have hS : va_S A s.heap s.heap [] := va_S.rf
  have hl := lv_entry ([.ref (h 5), .int a1, .int a2] : List Value) (n := 3) (Nat.le_of_ble_eq_true rfl)
  rw [lg_entry_eq]
  generalize (lg_sl ([.ref (h 5), .int a1, .int a2] : List Value) ++ List.replicate (3 - (lg_sl ([.ref (h 5), .int a1, .int a2] : List Value)).length) Slot.unset).toArray = ls at hl ⊢
  have hl : lv_has ls 3 [(0, .ref (h 5)), (1, .int (a1)), (2, .int (a2))] := hl
  unfold f_V_meet at hF
  obtain ⟨H, hHe⟩ : ∃ H, H = s.heap := ⟨_, rfl⟩
  obtain ⟨locs, hLe⟩ : ∃ L : List Loc, L = [] := ⟨_, rfl⟩
  rw [← hHe] at hP ⊢
  rw [← hLe]
  have hS : va_S A s.heap H locs := by rw [hHe, hLe]; exact hS
  refine lv_iload_n hx hb d_V_meet_0 rfl (lv_at hl 2 rfl) ?_
  refine lv_if_lt (tgt := 22) hx hb d_V_meet_1 (by decide) (fun c1 => ?_) (fun c1 => ?_)
  · have hF := qs_pos c1 hF
    obtain ⟨h8, h9⟩ := qs_ret hF
    exact W.vret hx hb hr (fun t ht hW => ⟨⟨g, rfl, h9, by rw [ht]; exact hP, va_K.moved hW.alike hK, hD⟩, hS.F ht⟩) hS.2.2 d_V_meet_22
  · have hF := qs_neg c1 hF
    refine lv_iload_n hx hb d_V_meet_4 rfl (lv_at hl 2 rfl) ?_
    refine lv_aload_n hx hb d_V_meet_5 rfl (lv_at hl 0 rfl) ?_
    refine va_get (D := (dC, dI)) (ci := 4) (v := .int (g 28 0)) (C := R_V) (T := T_V) (N := 6) hx hb hg in_V hown hK hP 5 rfl rfl 4 (by decide) (hg _ t_128) (fun _ h9 => h9) rfl d_V_meet_6 ?_
    refine lv_icmp_ge (tgt := 22) hx hb d_V_meet_9 (by decide) (fun c2 => ?_) (fun c2 => ?_)
    · have hF := qs_pos c2 hF
      obtain ⟨h8, h9⟩ := qs_ret hF
      exact W.vret hx hb hr (fun t ht hW => ⟨⟨g, rfl, h9, by rw [ht]; exact hP, va_K.moved hW.alike hK, hD⟩, hS.F ht⟩) hS.2.2 d_V_meet_22
    · have hF := qs_neg c2 hF
      refine lv_aload_n hx hb d_V_meet_12 rfl (lv_at hl 0 rfl) ?_
      refine lv_iload_n hx hb d_V_meet_13 rfl (lv_at hl 2 rfl) ?_
      refine va_put (D := (dC, dI)) (ci := 4) (v := .int (a2)) (ty := .int) (C := R_V) (T := T_V) (N := 6) hx hb hg in_V ty_V ty_V_ok nm_V hown hK hP hD hS 5 rfl rfl 4 (by decide) (hg _ t_128) (fun _ h9 => h9) rfl (by decide +kernel) rfl rfl (Nat.le_of_ble_eq_true rfl) d_V_meet_14 (fun H locs hP hD hS => ?_)
      obtain ⟨u3, hu3, hF⟩ := qs_st_some hF
      have hP : va_P (dC, dI) vwCl (qs_W h c u3) H := by rw [hu3]; exact hP
      have hD : va_D A (qs_W h c u3) := by rw [hu3]; exact hD
      clear hu3
      refine lv_aload_n hx hb d_V_meet_17 rfl (lv_at hl 0 rfl) ?_
      refine lv_iload_n hx hb d_V_meet_18 rfl (lv_at hl 1 rfl) ?_
      refine va_put (D := (dC, dI)) (ci := 4) (v := .int (a1)) (ty := .int) (C := R_V) (T := T_V) (N := 6) hx hb hg in_V ty_V ty_V_ok nm_V hown hK hP hD hS 5 rfl rfl 5 (by decide) (hg _ t_129) (fun _ h9 => h9) rfl (by decide +kernel) rfl rfl (Nat.le_of_ble_eq_true rfl) d_V_meet_19 (fun H locs hP hD hS => ?_)
      obtain ⟨u4, hu4, hF⟩ := qs_st_some hF
      have hP : va_P (dC, dI) vwCl (qs_W h c u4) H := by rw [hu4]; exact hP
      have hD : va_D A (qs_W h c u4) := by rw [hu4]; exact hD
      clear hu4
      obtain ⟨h8, h9⟩ := qs_ret hF
      exact W.vret hx hb hr (fun t ht hW => ⟨⟨u4, rfl, h9, by rw [ht]; exact hP, va_K.moved hW.alike hK, hD⟩, hS.F ht⟩) hS.2.2 d_V_meet_22

theorem d_V_meetWalls_0 : decode b_V_meetWalls 0 = .ok (.iconst 1, 1) := by decide +kernel
theorem d_V_meetWalls_1 : decode b_V_meetWalls 1 = .ok (.iload_n 2, 1) := by decide +kernel
theorem d_V_meetWalls_2 : decode b_V_meetWalls 2 = .ok (.isub, 1) := by decide +kernel
theorem d_V_meetWalls_3 : decode b_V_meetWalls 3 = .ok (.istore 4, 2) := by decide +kernel
theorem d_V_meetWalls_5 : decode b_V_meetWalls 5 = .ok (.aload_n 0, 1) := by decide +kernel
theorem d_V_meetWalls_6 : decode b_V_meetWalls 6 = .ok (.getfield 9, 3) := by decide +kernel
theorem d_V_meetWalls_9 : decode b_V_meetWalls 9 = .ok (.iload_n 1, 1) := by decide +kernel
theorem d_V_meetWalls_10 : decode b_V_meetWalls 10 = .ok (.iload 4, 2) := by decide +kernel
theorem d_V_meetWalls_12 : decode b_V_meetWalls 12 = .ok (.invokevirtual 90, 3) := by decide +kernel
theorem d_V_meetWalls_15 : decode b_V_meetWalls 15 = .ok (.istore 5, 2) := by decide +kernel
theorem d_V_meetWalls_17 : decode b_V_meetWalls 17 = .ok (.aload_n 0, 1) := by decide +kernel
theorem d_V_meetWalls_18 : decode b_V_meetWalls 18 = .ok (.getfield 9, 3) := by decide +kernel
theorem d_V_meetWalls_21 : decode b_V_meetWalls 21 = .ok (.iload_n 1, 1) := by decide +kernel
theorem d_V_meetWalls_22 : decode b_V_meetWalls 22 = .ok (.iload 4, 2) := by decide +kernel
theorem d_V_meetWalls_24 : decode b_V_meetWalls 24 = .ok (.invokevirtual 93, 3) := by decide +kernel
theorem d_V_meetWalls_27 : decode b_V_meetWalls 27 = .ok (.istore 6, 2) := by decide +kernel
theorem d_V_meetWalls_29 : decode b_V_meetWalls 29 = .ok (.iconst 0, 1) := by decide +kernel
theorem d_V_meetWalls_30 : decode b_V_meetWalls 30 = .ok (.istore 7, 2) := by decide +kernel
theorem d_V_meetWalls_32 : decode b_V_meetWalls 32 = .ok (.iload 7, 2) := by decide +kernel
theorem d_V_meetWalls_34 : decode b_V_meetWalls 34 = .ok (.aload_n 0, 1) := by decide +kernel
theorem d_V_meetWalls_35 : decode b_V_meetWalls 35 = .ok (.getfield 15, 3) := by decide +kernel
theorem d_V_meetWalls_38 : decode b_V_meetWalls 38 = .ok (.getfield 96, 3) := by decide +kernel
theorem d_V_meetWalls_41 : decode b_V_meetWalls 41 = .ok (.if_icmp .ge 97, 3) := by decide +kernel
theorem d_V_meetWalls_44 : decode b_V_meetWalls 44 = .ok (.iload 5, 2) := by decide +kernel
theorem d_V_meetWalls_46 : decode b_V_meetWalls 46 = .ok (.aload_n 0, 1) := by decide +kernel
theorem d_V_meetWalls_47 : decode b_V_meetWalls 47 = .ok (.getfield 15, 3) := by decide +kernel
theorem d_V_meetWalls_50 : decode b_V_meetWalls 50 = .ok (.iload 7, 2) := by decide +kernel
theorem d_V_meetWalls_52 : decode b_V_meetWalls 52 = .ok (.iload 4, 2) := by decide +kernel
theorem d_V_meetWalls_54 : decode b_V_meetWalls 54 = .ok (.invokevirtual 101, 3) := by decide +kernel
theorem d_V_meetWalls_57 : decode b_V_meetWalls 57 = .ok (.if_icmp .ge 75, 3) := by decide +kernel
theorem d_V_meetWalls_60 : decode b_V_meetWalls 60 = .ok (.aload_n 0, 1) := by decide +kernel
theorem d_V_meetWalls_61 : decode b_V_meetWalls 61 = .ok (.getfield 15, 3) := by decide +kernel
theorem d_V_meetWalls_64 : decode b_V_meetWalls 64 = .ok (.iload 7, 2) := by decide +kernel
theorem d_V_meetWalls_66 : decode b_V_meetWalls 66 = .ok (.iload 4, 2) := by decide +kernel
theorem d_V_meetWalls_68 : decode b_V_meetWalls 68 = .ok (.invokevirtual 102, 3) := by decide +kernel
theorem d_V_meetWalls_71 : decode b_V_meetWalls 71 = .ok (.iload 6, 2) := by decide +kernel
theorem d_V_meetWalls_73 : decode b_V_meetWalls 73 = .ok (.if_icmp .ge 59, 3) := by decide +kernel
theorem d_V_meetWalls_76 : decode b_V_meetWalls 76 = .ok (.iload_n 3, 1) := by decide +kernel
theorem d_V_meetWalls_77 : decode b_V_meetWalls 77 = .ok (.ifCond .eq 26, 3) := by decide +kernel
theorem d_V_meetWalls_80 : decode b_V_meetWalls 80 = .ok (.aload_n 0, 1) := by decide +kernel
theorem d_V_meetWalls_81 : decode b_V_meetWalls 81 = .ok (.getfield 15, 3) := by decide +kernel
theorem d_V_meetWalls_84 : decode b_V_meetWalls 84 = .ok (.iload 7, 2) := by decide +kernel
theorem d_V_meetWalls_86 : decode b_V_meetWalls 86 = .ok (.iload_n 2, 1) := by decide +kernel
theorem d_V_meetWalls_87 : decode b_V_meetWalls 87 = .ok (.invokevirtual 102, 3) := by decide +kernel
theorem d_V_meetWalls_90 : decode b_V_meetWalls 90 = .ok (.aload_n 0, 1) := by decide +kernel
theorem d_V_meetWalls_91 : decode b_V_meetWalls 91 = .ok (.getfield 9, 3) := by decide +kernel
theorem d_V_meetWalls_94 : decode b_V_meetWalls 94 = .ok (.iload_n 1, 1) := by decide +kernel
theorem d_V_meetWalls_95 : decode b_V_meetWalls 95 = .ok (.iload_n 2, 1) := by decide +kernel
theorem d_V_meetWalls_96 : decode b_V_meetWalls 96 = .ok (.invokevirtual 93, 3) := by decide +kernel
theorem d_V_meetWalls_99 : decode b_V_meetWalls 99 = .ok (.isub, 1) := by decide +kernel
theorem d_V_meetWalls_100 : decode b_V_meetWalls 100 = .ok (.goto 23, 3) := by decide +kernel
theorem d_V_meetWalls_103 : decode b_V_meetWalls 103 = .ok (.aload_n 0, 1) := by decide +kernel
theorem d_V_meetWalls_104 : decode b_V_meetWalls 104 = .ok (.getfield 9, 3) := by decide +kernel
theorem d_V_meetWalls_107 : decode b_V_meetWalls 107 = .ok (.iload_n 1, 1) := by decide +kernel
theorem d_V_meetWalls_108 : decode b_V_meetWalls 108 = .ok (.iload_n 2, 1) := by decide +kernel
theorem d_V_meetWalls_109 : decode b_V_meetWalls 109 = .ok (.invokevirtual 90, 3) := by decide +kernel
theorem d_V_meetWalls_112 : decode b_V_meetWalls 112 = .ok (.aload_n 0, 1) := by decide +kernel
theorem d_V_meetWalls_113 : decode b_V_meetWalls 113 = .ok (.getfield 15, 3) := by decide +kernel
theorem d_V_meetWalls_116 : decode b_V_meetWalls 116 = .ok (.iload 7, 2) := by decide +kernel
theorem d_V_meetWalls_118 : decode b_V_meetWalls 118 = .ok (.iload_n 2, 1) := by decide +kernel
theorem d_V_meetWalls_119 : decode b_V_meetWalls 119 = .ok (.invokevirtual 101, 3) := by decide +kernel
theorem d_V_meetWalls_122 : decode b_V_meetWalls 122 = .ok (.isub, 1) := by decide +kernel
theorem d_V_meetWalls_123 : decode b_V_meetWalls 123 = .ok (.istore 8, 2) := by decide +kernel
theorem d_V_meetWalls_125 : decode b_V_meetWalls 125 = .ok (.aload_n 0, 1) := by decide +kernel
theorem d_V_meetWalls_126 : decode b_V_meetWalls 126 = .ok (.iconst (-1), 1) := by decide +kernel
theorem d_V_meetWalls_127 : decode b_V_meetWalls 127 = .ok (.iload 8, 2) := by decide +kernel
theorem d_V_meetWalls_129 : decode b_V_meetWalls 129 = .ok (.invokevirtual 103, 3) := by decide +kernel
theorem d_V_meetWalls_132 : decode b_V_meetWalls 132 = .ok (.iinc 7 1, 3) := by decide +kernel
theorem d_V_meetWalls_135 : decode b_V_meetWalls 135 = .ok (.goto (-103), 3) := by decide +kernel
theorem d_V_meetWalls_138 : decode b_V_meetWalls 138 = .ok (.return_, 1) := by decide +kernel
def f_V_meetWalls_132 (k32 : Sg → Int32 → Int32 → Int32 → Int32 → Int32 → Int32 → Int32 → Option (Unit × Sg)) (g : Sg) (x1 : Int32) (x2 : Int32) (x3 : Int32) (x4 : Int32) (x5 : Int32) (x6 : Int32) (x7 : Int32) : Option (Unit × Sg) := (k32 g (x1) (x2) (x3) (x4) (x5) (x6) (x7 + 1))
def f_V_meetWalls_123 (k32 : Sg → Int32 → Int32 → Int32 → Int32 → Int32 → Int32 → Int32 → Option (Unit × Sg)) (g : Sg) (x1 : Int32) (x2 : Int32) (x3 : Int32) (x4 : Int32) (x5 : Int32) (x6 : Int32) (x7 : Int32) (y0 : Int32) : Option (Unit × Sg) := (qs_bn (f_V_meet g ((-1)) (y0)) fun _ u22 => (f_V_meetWalls_132 k32 u22 (x1) (x2) (x3) (x4) (x5) (x6) (x7)))
def f_V_meetWalls_32  : Nat → Sg → Int32 → Int32 → Int32 → Int32 → Int32 → Int32 → Int32 → Option (Unit × Sg)
  | 0, _, _, _, _, _, _, _, _ => none
  | n + 1, g, x1, x2, x3, x4, x5, x6, x7 => (if (g 20 0) ≤ x7 then (some ((), g)) else (qs_bn (f_W_high g (x7) (x4)) fun r6 u7 => (if r6 ≤ x5 then (f_V_meetWalls_132 (fun g x1 x2 x3 x4 x5 x6 x7 => f_V_meetWalls_32  n g x1 x2 x3 x4 x5 x6 x7) u7 (x1) (x2) (x3) (x4) (x5) (x6) (x7)) else (qs_bn (f_W_low u7 (x7) (x4)) fun r9 u10 => (if x6 ≤ r9 then (f_V_meetWalls_132 (fun g x1 x2 x3 x4 x5 x6 x7 => f_V_meetWalls_32  n g x1 x2 x3 x4 x5 x6 x7) u10 (x1) (x2) (x3) (x4) (x5) (x6) (x7)) else (if x3 = 0 then (qs_bn (f_E_low u10 (x1) (x2)) fun r13 u14 => (qs_bn (f_W_high u14 (x7) (x2)) fun r15 u16 => (f_V_meetWalls_123 (fun g x1 x2 x3 x4 x5 x6 x7 => f_V_meetWalls_32  n g x1 x2 x3 x4 x5 x6 x7) u16 (x1) (x2) (x3) (x4) (x5) (x6) (x7) (r13 - r15)))) else (qs_bn (f_W_low u10 (x7) (x2)) fun r17 u18 => (qs_bn (f_E_high u18 (x1) (x2)) fun r19 u20 => (f_V_meetWalls_123 (fun g x1 x2 x3 x4 x5 x6 x7 => f_V_meetWalls_32  n g x1 x2 x3 x4 x5 x6 x7) u20 (x1) (x2) (x3) (x4) (x5) (x6) (x7) (r17 - r19))))))))))
def f_V_meetWalls (g : Sg) (a1 : Int32) (a2 : Int32) (a3 : Int32) : Option (Unit × Sg) := (qs_bn (f_E_low g (a1) (1 - a2)) fun r1 u2 => (qs_bn (f_E_high u2 (a1) (1 - a2)) fun r3 u4 => (f_V_meetWalls_32 200 u4 (a1) (a2) (a3) (1 - a2) (r1) (r3) (0))))
set_option maxHeartbeats 4000000 in
set_option maxRecDepth 100000 in
theorem c_V_meetWalls (l : Launch) (dC : Nat → ClassId) (dI : Nat → Nat → Nat) (h : Nat → Nat) (c : Nat → ClassId) (sz : Nat) (g : Sg) (a1 : Int32) (a2 : Int32) (a3 : Int32) (u0 : Sg) (hF : f_V_meetWalls g a1 a2 a3 = some ((), u0)) : Met l y_V_meetWalls (qs_ws y_V_meetWalls b_V_meetWalls 9 none) ({ frames := 3, cells := 0, slots := 0, locals := 66 } : Room) (va_Pc ([.ref (h 5), .int a1, .int a2, .int a3] : List Value) (fun U => U.heap.size = sz ∧ va_P (dC, dI) vwCl (qs_W h c g) U.heap ∧ va_K (dC, dI) vwCl (qs_T c) U ∧ va_D (fun _ => True) (qs_W h c g) ∧ qs_N U)) (va_Qv (fun (u : Sg) => u = u0) (qs_at dC dI h c (va_A (qs_W h c g) sz)) (va_A (qs_W h c g) sz)) 0 0 (va_A (qs_W h c g) sz) := by
  refine Met.ofW (cc := b_V_meetWalls) (maxL := 9) (ret := none) (by decide +kernel) rfl ?_
  intro p e s m args below meth cd s₁ B hml hv
  obtain ⟨rfl, hsz, hP, hK, hD0, hNs⟩ := hv
  have hx := B.exec
  have hb := B.bytes
  have hr := B.returns
  have hts := atoms_spec (ws := (qs_ws y_V_meetWalls b_V_meetWalls 9 none)) B.pre
  have hg : ∀ w ∈ qs_gt, w.before _ s = true := fun w h => hts w (List.mem_cons_of_mem _ h)
  have hown : s.vm.findClass R_V = some m.cls := findClass_of_methodNamed B.named
  have hlocks := B.notSynchronized
  subst hsz
  have hD := hD0.self (sz := s.heap.size)
  generalize hAe : va_A (qs_W h c g) s.heap.size = A at hD ⊢
  have hA : ∀ q : Nat, s.heap.size ≤ q → A q := fun q h => by rw [← hAe]; exact Or.inr h
  have hS : va_S A s.heap s.heap [] := va_S.rf
  have kb_132 : ∀ (k32 : Sg → Int32 → Int32 → Int32 → Int32 → Int32 → Int32 → Int32 → Option (Unit × Sg)), (∀ (g : Sg) (x1 : Int32) (x2 : Int32) (x3 : Int32) (x4 : Int32) (x5 : Int32) (x6 : Int32) (x7 : Int32) (H : Heap) (locs : List Loc) (ls : Array Slot), va_P (dC, dI) vwCl (qs_W h c g) H → va_D A (qs_W h c g) → va_S A s.heap H locs → lv_has ls 9 [(0, .ref (h 5)), (1, .int (x1)), (2, .int (x2)), (3, .int (x3)), (4, .int (x4)), (5, .int (x5)), (6, .int (x6)), (7, .int (x7))] → k32 g x1 x2 x3 x4 x5 x6 x7 = some ((), u0) → W p l e (headSpec (qs_ws y_V_meetWalls b_V_meetWalls 9 none) ({ frames := 3, cells := 0, slots := 0, locals := 66 } : Room)).room s m ([.ref (h 5), .int a1, .int a2, .int a3] : List Value).toArray below meth cd H locs 0 0 (MQ below (va_Qv (fun (u : Sg) => u = u0) (qs_at dC dI h c A) A) ([.ref (h 5), .int a1, .int a2, .int a3] : List Value).toArray s 0 0 A) (F0 m 32 ls [])) → ∀ (g : Sg) (x1 : Int32) (x2 : Int32) (x3 : Int32) (x4 : Int32) (x5 : Int32) (x6 : Int32) (x7 : Int32) (H : Heap) (locs : List Loc) (ls : Array Slot), va_P (dC, dI) vwCl (qs_W h c g) H → va_D A (qs_W h c g) → va_S A s.heap H locs → lv_has ls 9 [(0, .ref (h 5)), (1, .int (x1)), (2, .int (x2)), (3, .int (x3)), (4, .int (x4)), (5, .int (x5)), (6, .int (x6)), (7, .int (x7))] → f_V_meetWalls_132 k32  g x1 x2 x3 x4 x5 x6 x7 = some ((), u0) → W p l e (headSpec (qs_ws y_V_meetWalls b_V_meetWalls 9 none) ({ frames := 3, cells := 0, slots := 0, locals := 66 } : Room)).room s m ([.ref (h 5), .int a1, .int a2, .int a3] : List Value).toArray below meth cd H locs 0 0 (MQ below (va_Qv (fun (u : Sg) => u = u0) (qs_at dC dI h c A) A) ([.ref (h 5), .int a1, .int a2, .int a3] : List Value).toArray s 0 0 A) (F0 m 132 ls []) := by
    intro k32 hk32
    intro g x1 x2 x3 x4 x5 x6 x7 H locs ls hP hD hS hl hF
    unfold f_V_meetWalls_132 at hF
    refine lv_iinc (v := x7 + 1) (lv' := [(7, .int (x7 + 1)), (0, .ref (h 5)), (1, .int (x1)), (2, .int (x2)), (3, .int (x3)), (4, .int (x4)), (5, .int (x5)), (6, .int (x6))]) hx hb d_V_meetWalls_132 hl (k := 7) rfl (by rfl) (by decide) rfl (fun ls hl => ?_)
    refine lv_goto (tgt := 32) hx hb d_V_meetWalls_135 (by decide) ?_
    exact hk32 g (x1) (x2) (x3) (x4) (x5) (x6) (x7 + 1) H locs ls hP hD hS (lv_sub hl [1, 2, 3, 4, 5, 6, 7, 0] rfl) hF
  have kb_123 : ∀ (k32 : Sg → Int32 → Int32 → Int32 → Int32 → Int32 → Int32 → Int32 → Option (Unit × Sg)), (∀ (g : Sg) (x1 : Int32) (x2 : Int32) (x3 : Int32) (x4 : Int32) (x5 : Int32) (x6 : Int32) (x7 : Int32) (H : Heap) (locs : List Loc) (ls : Array Slot), va_P (dC, dI) vwCl (qs_W h c g) H → va_D A (qs_W h c g) → va_S A s.heap H locs → lv_has ls 9 [(0, .ref (h 5)), (1, .int (x1)), (2, .int (x2)), (3, .int (x3)), (4, .int (x4)), (5, .int (x5)), (6, .int (x6)), (7, .int (x7))] → k32 g x1 x2 x3 x4 x5 x6 x7 = some ((), u0) → W p l e (headSpec (qs_ws y_V_meetWalls b_V_meetWalls 9 none) ({ frames := 3, cells := 0, slots := 0, locals := 66 } : Room)).room s m ([.ref (h 5), .int a1, .int a2, .int a3] : List Value).toArray below meth cd H locs 0 0 (MQ below (va_Qv (fun (u : Sg) => u = u0) (qs_at dC dI h c A) A) ([.ref (h 5), .int a1, .int a2, .int a3] : List Value).toArray s 0 0 A) (F0 m 32 ls [])) → ∀ (g : Sg) (x1 : Int32) (x2 : Int32) (x3 : Int32) (x4 : Int32) (x5 : Int32) (x6 : Int32) (x7 : Int32) (y0 : Int32) (H : Heap) (locs : List Loc) (ls : Array Slot), va_P (dC, dI) vwCl (qs_W h c g) H → va_D A (qs_W h c g) → va_S A s.heap H locs → lv_has ls 9 [(0, .ref (h 5)), (1, .int (x1)), (2, .int (x2)), (3, .int (x3)), (4, .int (x4)), (5, .int (x5)), (6, .int (x6)), (7, .int (x7))] → f_V_meetWalls_123 k32  g x1 x2 x3 x4 x5 x6 x7 y0 = some ((), u0) → W p l e (headSpec (qs_ws y_V_meetWalls b_V_meetWalls 9 none) ({ frames := 3, cells := 0, slots := 0, locals := 66 } : Room)).room s m ([.ref (h 5), .int a1, .int a2, .int a3] : List Value).toArray below meth cd H locs 0 0 (MQ below (va_Qv (fun (u : Sg) => u = u0) (qs_at dC dI h c A) A) ([.ref (h 5), .int a1, .int a2, .int a3] : List Value).toArray s 0 0 A) (F0 m 123 ls [.int (y0)]) := by
    intro k32 hk32
    intro g x1 x2 x3 x4 x5 x6 x7 y0 H locs ls hP hD hS hl hF
    unfold f_V_meetWalls_123 at hF
    refine lv_istore (lv' := [(8, .int (y0)), (0, .ref (h 5)), (1, .int (x1)), (2, .int (x2)), (3, .int (x3)), (4, .int (x4)), (5, .int (x5)), (6, .int (x6)), (7, .int (x7))]) hx hb d_V_meetWalls_123 hl (by decide) rfl (fun ls hl => ?_)
    refine lv_aload_n hx hb d_V_meetWalls_125 rfl (lv_at hl 1 rfl) ?_
    refine lv_iconst (v := (-1)) hx hb d_V_meetWalls_126 (by decide) ?_
    refine lv_iload hx hb d_V_meetWalls_127 (lv_at hl 0 rfl) ?_
    obtain ⟨r21, u22, hX, hF⟩ := qs_bn_some hF
    refine qs_cv (Wd := qs_W h c) (isC := [0, 1, 2, 3, 4, 5, 6, 7, 8, 9, 10, 11, 12, 13, 14, 15, 16]) (va_runV (own := "QuakeServer$Mover") (C := "QuakeServer$Mover") (As := [.int ((-1)), .int (y0)]) (rest := []) ⟨hx, hb, hml, hown, hg⟩ (c_V_meet l dC dI h c H.size g ((-1)) (y0)  u22 hX) (cwV 2 hg (qs_gV t_561 t_563 tp_12 t_6 t_564) rfl rfl rfl (by decide +kernel) ⟨Nat.le_of_ble_eq_true rfl, Nat.le_of_ble_eq_true rfl⟩) ⟨qs_blind, va_recv hK hP (ci := 4) (q0 := 5) rfl rfl, fun U hU hW => ⟨rfl, by rw [hU], by rw [hU]; exact hP, va_K.moved hW.alike hK, hD.weaken (fun _ _ _ _ => trivial), hNs.warm hW⟩⟩ rfl rfl hl.1 rfl (lv_room (Nat.le_of_ble_eq_true rfl)) d_V_meetWalls_129 ⟨Nat.le_of_ble_eq_true rfl, Nat.le_of_ble_eq_true rfl⟩) rfl hP hD hS hA (fun H locs hP hD hS => ?_)
    exact kb_132 _ hk32 u22 (x1) (x2) (x3) (x4) (x5) (x6) (x7) H locs ls hP hD hS (lv_sub hl [1, 2, 3, 4, 5, 6, 7, 8] rfl) hF
  have kb_32 : ∀ n : Nat, ∀ (g : Sg) (x1 : Int32) (x2 : Int32) (x3 : Int32) (x4 : Int32) (x5 : Int32) (x6 : Int32) (x7 : Int32) (H : Heap) (locs : List Loc) (ls : Array Slot), va_P (dC, dI) vwCl (qs_W h c g) H → va_D A (qs_W h c g) → va_S A s.heap H locs → lv_has ls 9 [(0, .ref (h 5)), (1, .int (x1)), (2, .int (x2)), (3, .int (x3)), (4, .int (x4)), (5, .int (x5)), (6, .int (x6)), (7, .int (x7))] → f_V_meetWalls_32 n g x1 x2 x3 x4 x5 x6 x7 = some ((), u0) → W p l e (headSpec (qs_ws y_V_meetWalls b_V_meetWalls 9 none) ({ frames := 3, cells := 0, slots := 0, locals := 66 } : Room)).room s m ([.ref (h 5), .int a1, .int a2, .int a3] : List Value).toArray below meth cd H locs 0 0 (MQ below (va_Qv (fun (u : Sg) => u = u0) (qs_at dC dI h c A) A) ([.ref (h 5), .int a1, .int a2, .int a3] : List Value).toArray s 0 0 A) (F0 m 32 ls []) := by
    intro n
    induction n with
    | zero =>
      intro g x1 x2 x3 x4 x5 x6 x7 H locs ls hP hD hS hl hF
      exact nomatch (show (none : Option (Unit × Sg)) = some _ from hF)
    | succ n ih =>
      intro g x1 x2 x3 x4 x5 x6 x7 H locs ls hP hD hS hl hF
      rw [f_V_meetWalls_32] at hF
      refine lv_iload hx hb d_V_meetWalls_32 (lv_at hl 7 rfl) ?_
      refine lv_aload_n hx hb d_V_meetWalls_34 rfl (lv_at hl 0 rfl) ?_
      refine va_get (D := (dC, dI)) (ci := 4) (v := .ref (h 2)) (C := R_V) (T := T_V) (N := 6) hx hb hg in_V hown hK hP 5 rfl rfl 1 (by decide) (hg _ t_124) (fun _ h9 => h9) rfl d_V_meetWalls_35 ?_
      refine va_getN (D := (dC, dI)) (ci := 1) (v := .int (g 20 0)) (C := R_W) (T := T_W) (N := 3) hx hb hg in_W hown hK hP 2 rfl rfl 2 (by decide) (va_Nw.use rfl (nF_1 hNs)) (fun _ h9 => h9) rfl d_V_meetWalls_38 ?_
      refine lv_icmp_ge (tgt := 138) hx hb d_V_meetWalls_41 (by decide) (fun c5 => ?_) (fun c5 => ?_)
      · have hF := qs_pos c5 hF
        obtain ⟨h8, h9⟩ := qs_ret hF
        exact W.vret hx hb hr (fun t ht hW => ⟨⟨g, rfl, h9, by rw [ht]; exact hP, va_K.moved hW.alike hK, hD⟩, hS.F ht⟩) hS.2.2 d_V_meetWalls_138
      · have hF := qs_neg c5 hF
        refine lv_iload hx hb d_V_meetWalls_44 (lv_at hl 5 rfl) ?_
        refine lv_aload_n hx hb d_V_meetWalls_46 rfl (lv_at hl 0 rfl) ?_
        refine va_get (D := (dC, dI)) (ci := 4) (v := .ref (h 2)) (C := R_V) (T := T_V) (N := 6) hx hb hg in_V hown hK hP 5 rfl rfl 1 (by decide) (hg _ t_124) (fun _ h9 => h9) rfl d_V_meetWalls_47 ?_
        refine lv_iload hx hb d_V_meetWalls_50 (lv_at hl 7 rfl) ?_
        refine lv_iload hx hb d_V_meetWalls_52 (lv_at hl 4 rfl) ?_
        obtain ⟨r6, u7, hX, hF⟩ := qs_bn_some hF
        refine qs_ci (Wd := qs_W h c) (isC := [0, 1, 2, 3, 4, 5, 6, 7, 8, 9, 10, 11, 12, 13, 14, 15, 16]) (va_runV (own := "QuakeServer$Mover") (C := "QuakeServer$Walls") (As := [.int (x7), .int (x4)]) (rest := [.int (x5)]) ⟨hx, hb, hml, hown, hg⟩ (c_W_high l dC dI h c H.size g (x7) (x4) r6 u7 hX) (cwV 2 hg (qs_gV t_553 t_554 t_555 t_3 t_556) rfl rfl rfl (by decide +kernel) ⟨Nat.le_of_ble_eq_true rfl, Nat.le_of_ble_eq_true rfl⟩) ⟨qs_blind, va_recv hK hP (ci := 1) (q0 := 2) rfl rfl, fun U hU hW => ⟨rfl, by rw [hU], by rw [hU]; exact hP, va_K.moved hW.alike hK, hD.weaken (fun _ _ _ _ => trivial), hNs.warm hW⟩⟩ rfl rfl hl.1 rfl (lv_room (Nat.le_of_ble_eq_true rfl)) d_V_meetWalls_54 ⟨Nat.le_of_ble_eq_true rfl, Nat.le_of_ble_eq_true rfl⟩) rfl hP hD hS hA (fun H locs hP hD hS => ?_)
        refine lv_icmp_ge (tgt := 132) hx hb d_V_meetWalls_57 (by decide) (fun c8 => ?_) (fun c8 => ?_)
        · have hF := qs_pos c8 hF
          exact kb_132 _ ih u7 (x1) (x2) (x3) (x4) (x5) (x6) (x7) H locs ls hP hD hS (lv_sub hl [0, 1, 2, 3, 4, 5, 6, 7] rfl) hF
        · have hF := qs_neg c8 hF
          refine lv_aload_n hx hb d_V_meetWalls_60 rfl (lv_at hl 0 rfl) ?_
          refine va_get (D := (dC, dI)) (ci := 4) (v := .ref (h 2)) (C := R_V) (T := T_V) (N := 6) hx hb hg in_V hown hK hP 5 rfl rfl 1 (by decide) (hg _ t_124) (fun _ h9 => h9) rfl d_V_meetWalls_61 ?_
          refine lv_iload hx hb d_V_meetWalls_64 (lv_at hl 7 rfl) ?_
          refine lv_iload hx hb d_V_meetWalls_66 (lv_at hl 4 rfl) ?_
          obtain ⟨r9, u10, hX, hF⟩ := qs_bn_some hF
          refine qs_ci (Wd := qs_W h c) (isC := [0, 1, 2, 3, 4, 5, 6, 7, 8, 9, 10, 11, 12, 13, 14, 15, 16]) (va_runV (own := "QuakeServer$Mover") (C := "QuakeServer$Walls") (As := [.int (x7), .int (x4)]) (rest := []) ⟨hx, hb, hml, hown, hg⟩ (c_W_low l dC dI h c H.size u7 (x7) (x4) r9 u10 hX) (cwV 2 hg (qs_gV t_557 t_558 t_559 t_3 t_560) rfl rfl rfl (by decide +kernel) ⟨Nat.le_of_ble_eq_true rfl, Nat.le_of_ble_eq_true rfl⟩) ⟨qs_blind, va_recv hK hP (ci := 1) (q0 := 2) rfl rfl, fun U hU hW => ⟨rfl, by rw [hU], by rw [hU]; exact hP, va_K.moved hW.alike hK, hD.weaken (fun _ _ _ _ => trivial), hNs.warm hW⟩⟩ rfl rfl hl.1 rfl (lv_room (Nat.le_of_ble_eq_true rfl)) d_V_meetWalls_68 ⟨Nat.le_of_ble_eq_true rfl, Nat.le_of_ble_eq_true rfl⟩) rfl hP hD hS hA (fun H locs hP hD hS => ?_)
          refine lv_iload hx hb d_V_meetWalls_71 (lv_at hl 6 rfl) ?_
          refine lv_icmp_ge (tgt := 132) hx hb d_V_meetWalls_73 (by decide) (fun c11 => ?_) (fun c11 => ?_)
          · have hF := qs_pos c11 hF
            exact kb_132 _ ih u10 (x1) (x2) (x3) (x4) (x5) (x6) (x7) H locs ls hP hD hS (lv_sub hl [0, 1, 2, 3, 4, 5, 6, 7] rfl) hF
          · have hF := qs_neg c11 hF
            refine lv_iload_n hx hb d_V_meetWalls_76 rfl (lv_at hl 3 rfl) ?_
            refine lv_if_eq (tgt := 103) hx hb d_V_meetWalls_77 (by decide) (fun c12 => ?_) (fun c12 => ?_)
            · have hF := qs_pos c12 hF
              refine lv_aload_n hx hb d_V_meetWalls_103 rfl (lv_at hl 0 rfl) ?_
              refine va_get (D := (dC, dI)) (ci := 4) (v := .ref (h 1)) (C := R_V) (T := T_V) (N := 6) hx hb hg in_V hown hK hP 5 rfl rfl 0 (by decide) (hg _ t_123) (fun _ h9 => h9) rfl d_V_meetWalls_104 ?_
              refine lv_iload_n hx hb d_V_meetWalls_107 rfl (lv_at hl 1 rfl) ?_
              refine lv_iload_n hx hb d_V_meetWalls_108 rfl (lv_at hl 2 rfl) ?_
              obtain ⟨r13, u14, hX, hF⟩ := qs_bn_some hF
              refine qs_ci (Wd := qs_W h c) (isC := [0, 1, 2, 3, 4, 5, 6, 7, 8, 9, 10, 11, 12, 13, 14, 15, 16]) (va_runV (own := "QuakeServer$Mover") (C := "QuakeServer$Entities") (As := [.int (x1), .int (x2)]) (rest := []) ⟨hx, hb, hml, hown, hg⟩ (c_E_low l dC dI h c H.size u10 (x1) (x2) r13 u14 hX) (cwV 2 hg (qs_gV t_535 t_536 t_537 t_2 t_538) rfl rfl rfl (by decide +kernel) ⟨Nat.le_of_ble_eq_true rfl, Nat.le_of_ble_eq_true rfl⟩) ⟨qs_blind, va_recv hK hP (ci := 0) (q0 := 1) rfl rfl, fun U hU hW => ⟨rfl, by rw [hU], by rw [hU]; exact hP, va_K.moved hW.alike hK, hD.weaken (fun _ _ _ _ => trivial), hNs.warm hW⟩⟩ rfl rfl hl.1 rfl (lv_room (Nat.le_of_ble_eq_true rfl)) d_V_meetWalls_109 ⟨Nat.le_of_ble_eq_true rfl, Nat.le_of_ble_eq_true rfl⟩) rfl hP hD hS hA (fun H locs hP hD hS => ?_)
              refine lv_aload_n hx hb d_V_meetWalls_112 rfl (lv_at hl 0 rfl) ?_
              refine va_get (D := (dC, dI)) (ci := 4) (v := .ref (h 2)) (C := R_V) (T := T_V) (N := 6) hx hb hg in_V hown hK hP 5 rfl rfl 1 (by decide) (hg _ t_124) (fun _ h9 => h9) rfl d_V_meetWalls_113 ?_
              refine lv_iload hx hb d_V_meetWalls_116 (lv_at hl 7 rfl) ?_
              refine lv_iload_n hx hb d_V_meetWalls_118 rfl (lv_at hl 2 rfl) ?_
              obtain ⟨r15, u16, hX, hF⟩ := qs_bn_some hF
              refine qs_ci (Wd := qs_W h c) (isC := [0, 1, 2, 3, 4, 5, 6, 7, 8, 9, 10, 11, 12, 13, 14, 15, 16]) (va_runV (own := "QuakeServer$Mover") (C := "QuakeServer$Walls") (As := [.int (x7), .int (x2)]) (rest := [.int (r13)]) ⟨hx, hb, hml, hown, hg⟩ (c_W_high l dC dI h c H.size u14 (x7) (x2) r15 u16 hX) (cwV 2 hg (qs_gV t_553 t_554 t_555 t_3 t_556) rfl rfl rfl (by decide +kernel) ⟨Nat.le_of_ble_eq_true rfl, Nat.le_of_ble_eq_true rfl⟩) ⟨qs_blind, va_recv hK hP (ci := 1) (q0 := 2) rfl rfl, fun U hU hW => ⟨rfl, by rw [hU], by rw [hU]; exact hP, va_K.moved hW.alike hK, hD.weaken (fun _ _ _ _ => trivial), hNs.warm hW⟩⟩ rfl rfl hl.1 rfl (lv_room (Nat.le_of_ble_eq_true rfl)) d_V_meetWalls_119 ⟨Nat.le_of_ble_eq_true rfl, Nat.le_of_ble_eq_true rfl⟩) rfl hP hD hS hA (fun H locs hP hD hS => ?_)
              refine lv_isub hx hb d_V_meetWalls_122 ?_
              exact kb_123 _ ih u16 (x1) (x2) (x3) (x4) (x5) (x6) (x7) (r13 - r15) H locs ls hP hD hS (lv_sub hl [0, 1, 2, 3, 4, 5, 6, 7] rfl) hF
            · have hF := qs_neg c12 hF
              refine lv_aload_n hx hb d_V_meetWalls_80 rfl (lv_at hl 0 rfl) ?_
              refine va_get (D := (dC, dI)) (ci := 4) (v := .ref (h 2)) (C := R_V) (T := T_V) (N := 6) hx hb hg in_V hown hK hP 5 rfl rfl 1 (by decide) (hg _ t_124) (fun _ h9 => h9) rfl d_V_meetWalls_81 ?_
              refine lv_iload hx hb d_V_meetWalls_84 (lv_at hl 7 rfl) ?_
              refine lv_iload_n hx hb d_V_meetWalls_86 rfl (lv_at hl 2 rfl) ?_
              obtain ⟨r17, u18, hX, hF⟩ := qs_bn_some hF
              refine qs_ci (Wd := qs_W h c) (isC := [0, 1, 2, 3, 4, 5, 6, 7, 8, 9, 10, 11, 12, 13, 14, 15, 16]) (va_runV (own := "QuakeServer$Mover") (C := "QuakeServer$Walls") (As := [.int (x7), .int (x2)]) (rest := []) ⟨hx, hb, hml, hown, hg⟩ (c_W_low l dC dI h c H.size u10 (x7) (x2) r17 u18 hX) (cwV 2 hg (qs_gV t_557 t_558 t_559 t_3 t_560) rfl rfl rfl (by decide +kernel) ⟨Nat.le_of_ble_eq_true rfl, Nat.le_of_ble_eq_true rfl⟩) ⟨qs_blind, va_recv hK hP (ci := 1) (q0 := 2) rfl rfl, fun U hU hW => ⟨rfl, by rw [hU], by rw [hU]; exact hP, va_K.moved hW.alike hK, hD.weaken (fun _ _ _ _ => trivial), hNs.warm hW⟩⟩ rfl rfl hl.1 rfl (lv_room (Nat.le_of_ble_eq_true rfl)) d_V_meetWalls_87 ⟨Nat.le_of_ble_eq_true rfl, Nat.le_of_ble_eq_true rfl⟩) rfl hP hD hS hA (fun H locs hP hD hS => ?_)
              refine lv_aload_n hx hb d_V_meetWalls_90 rfl (lv_at hl 0 rfl) ?_
              refine va_get (D := (dC, dI)) (ci := 4) (v := .ref (h 1)) (C := R_V) (T := T_V) (N := 6) hx hb hg in_V hown hK hP 5 rfl rfl 0 (by decide) (hg _ t_123) (fun _ h9 => h9) rfl d_V_meetWalls_91 ?_
              refine lv_iload_n hx hb d_V_meetWalls_94 rfl (lv_at hl 1 rfl) ?_
              refine lv_iload_n hx hb d_V_meetWalls_95 rfl (lv_at hl 2 rfl) ?_
              obtain ⟨r19, u20, hX, hF⟩ := qs_bn_some hF
              refine qs_ci (Wd := qs_W h c) (isC := [0, 1, 2, 3, 4, 5, 6, 7, 8, 9, 10, 11, 12, 13, 14, 15, 16]) (va_runV (own := "QuakeServer$Mover") (C := "QuakeServer$Entities") (As := [.int (x1), .int (x2)]) (rest := [.int (r17)]) ⟨hx, hb, hml, hown, hg⟩ (c_E_high l dC dI h c H.size u18 (x1) (x2) r19 u20 hX) (cwV 2 hg (qs_gV t_549 t_550 t_551 t_2 t_552) rfl rfl rfl (by decide +kernel) ⟨Nat.le_of_ble_eq_true rfl, Nat.le_of_ble_eq_true rfl⟩) ⟨qs_blind, va_recv hK hP (ci := 0) (q0 := 1) rfl rfl, fun U hU hW => ⟨rfl, by rw [hU], by rw [hU]; exact hP, va_K.moved hW.alike hK, hD.weaken (fun _ _ _ _ => trivial), hNs.warm hW⟩⟩ rfl rfl hl.1 rfl (lv_room (Nat.le_of_ble_eq_true rfl)) d_V_meetWalls_96 ⟨Nat.le_of_ble_eq_true rfl, Nat.le_of_ble_eq_true rfl⟩) rfl hP hD hS hA (fun H locs hP hD hS => ?_)
              refine lv_isub hx hb d_V_meetWalls_99 ?_
              refine lv_goto (tgt := 123) hx hb d_V_meetWalls_100 (by decide) ?_
              exact kb_123 _ ih u20 (x1) (x2) (x3) (x4) (x5) (x6) (x7) (r17 - r19) H locs ls hP hD hS (lv_sub hl [0, 1, 2, 3, 4, 5, 6, 7] rfl) hF
  have hl := lv_entry ([.ref (h 5), .int a1, .int a2, .int a3] : List Value) (n := 9) (Nat.le_of_ble_eq_true rfl)
  rw [lg_entry_eq]
  generalize (lg_sl ([.ref (h 5), .int a1, .int a2, .int a3] : List Value) ++ List.replicate (9 - (lg_sl ([.ref (h 5), .int a1, .int a2, .int a3] : List Value)).length) Slot.unset).toArray = ls at hl ⊢
  have hl : lv_has ls 9 [(0, .ref (h 5)), (1, .int (a1)), (2, .int (a2)), (3, .int (a3))] := hl
  unfold f_V_meetWalls at hF
  obtain ⟨H, hHe⟩ : ∃ H, H = s.heap := ⟨_, rfl⟩
  obtain ⟨locs, hLe⟩ : ∃ L : List Loc, L = [] := ⟨_, rfl⟩
  rw [← hHe] at hP ⊢
  rw [← hLe]
  have hS : va_S A s.heap H locs := by rw [hHe, hLe]; exact hS
  refine lv_iconst (v := 1) hx hb d_V_meetWalls_0 (by decide) ?_
  refine lv_iload_n hx hb d_V_meetWalls_1 rfl (lv_at hl 2 rfl) ?_
  refine lv_isub hx hb d_V_meetWalls_2 ?_
  refine lv_istore (lv' := [(4, .int (1 - a2)), (0, .ref (h 5)), (1, .int (a1)), (2, .int (a2)), (3, .int (a3))]) hx hb d_V_meetWalls_3 hl (by decide) rfl (fun ls hl => ?_)
  refine lv_aload_n hx hb d_V_meetWalls_5 rfl (lv_at hl 1 rfl) ?_
  refine va_get (D := (dC, dI)) (ci := 4) (v := .ref (h 1)) (C := R_V) (T := T_V) (N := 6) hx hb hg in_V hown hK hP 5 rfl rfl 0 (by decide) (hg _ t_123) (fun _ h9 => h9) rfl d_V_meetWalls_6 ?_
  refine lv_iload_n hx hb d_V_meetWalls_9 rfl (lv_at hl 2 rfl) ?_
  refine lv_iload hx hb d_V_meetWalls_10 (lv_at hl 0 rfl) ?_
  obtain ⟨r1, u2, hX, hF⟩ := qs_bn_some hF
  refine qs_ci (Wd := qs_W h c) (isC := [0, 1, 2, 3, 4, 5, 6, 7, 8, 9, 10, 11, 12, 13, 14, 15, 16]) (va_runV (own := "QuakeServer$Mover") (C := "QuakeServer$Entities") (As := [.int (a1), .int (1 - a2)]) (rest := []) ⟨hx, hb, hml, hown, hg⟩ (c_E_low l dC dI h c H.size g (a1) (1 - a2) r1 u2 hX) (cwV 2 hg (qs_gV t_535 t_536 t_537 t_2 t_538) rfl rfl rfl (by decide +kernel) ⟨Nat.le_of_ble_eq_true rfl, Nat.le_of_ble_eq_true rfl⟩) ⟨qs_blind, va_recv hK hP (ci := 0) (q0 := 1) rfl rfl, fun U hU hW => ⟨rfl, by rw [hU], by rw [hU]; exact hP, va_K.moved hW.alike hK, hD.weaken (fun _ _ _ _ => trivial), hNs.warm hW⟩⟩ rfl rfl hl.1 rfl (lv_room (Nat.le_of_ble_eq_true rfl)) d_V_meetWalls_12 ⟨Nat.le_of_ble_eq_true rfl, Nat.le_of_ble_eq_true rfl⟩) rfl hP hD hS hA (fun H locs hP hD hS => ?_)
  refine lv_istore (lv' := [(5, .int (r1)), (4, .int (1 - a2)), (0, .ref (h 5)), (1, .int (a1)), (2, .int (a2)), (3, .int (a3))]) hx hb d_V_meetWalls_15 hl (by decide) rfl (fun ls hl => ?_)
  refine lv_aload_n hx hb d_V_meetWalls_17 rfl (lv_at hl 2 rfl) ?_
  refine va_get (D := (dC, dI)) (ci := 4) (v := .ref (h 1)) (C := R_V) (T := T_V) (N := 6) hx hb hg in_V hown hK hP 5 rfl rfl 0 (by decide) (hg _ t_123) (fun _ h9 => h9) rfl d_V_meetWalls_18 ?_
  refine lv_iload_n hx hb d_V_meetWalls_21 rfl (lv_at hl 3 rfl) ?_
  refine lv_iload hx hb d_V_meetWalls_22 (lv_at hl 1 rfl) ?_
  obtain ⟨r3, u4, hX, hF⟩ := qs_bn_some hF
  refine qs_ci (Wd := qs_W h c) (isC := [0, 1, 2, 3, 4, 5, 6, 7, 8, 9, 10, 11, 12, 13, 14, 15, 16]) (va_runV (own := "QuakeServer$Mover") (C := "QuakeServer$Entities") (As := [.int (a1), .int (1 - a2)]) (rest := []) ⟨hx, hb, hml, hown, hg⟩ (c_E_high l dC dI h c H.size u2 (a1) (1 - a2) r3 u4 hX) (cwV 2 hg (qs_gV t_549 t_550 t_551 t_2 t_552) rfl rfl rfl (by decide +kernel) ⟨Nat.le_of_ble_eq_true rfl, Nat.le_of_ble_eq_true rfl⟩) ⟨qs_blind, va_recv hK hP (ci := 0) (q0 := 1) rfl rfl, fun U hU hW => ⟨rfl, by rw [hU], by rw [hU]; exact hP, va_K.moved hW.alike hK, hD.weaken (fun _ _ _ _ => trivial), hNs.warm hW⟩⟩ rfl rfl hl.1 rfl (lv_room (Nat.le_of_ble_eq_true rfl)) d_V_meetWalls_24 ⟨Nat.le_of_ble_eq_true rfl, Nat.le_of_ble_eq_true rfl⟩) rfl hP hD hS hA (fun H locs hP hD hS => ?_)
  refine lv_istore (lv' := [(6, .int (r3)), (5, .int (r1)), (4, .int (1 - a2)), (0, .ref (h 5)), (1, .int (a1)), (2, .int (a2)), (3, .int (a3))]) hx hb d_V_meetWalls_27 hl (by decide) rfl (fun ls hl => ?_)
  refine lv_iconst (v := 0) hx hb d_V_meetWalls_29 (by decide) ?_
  refine lv_istore (lv' := [(7, .int (0)), (6, .int (r3)), (5, .int (r1)), (4, .int (1 - a2)), (0, .ref (h 5)), (1, .int (a1)), (2, .int (a2)), (3, .int (a3))]) hx hb d_V_meetWalls_30 hl (by decide) rfl (fun ls hl => ?_)
  exact kb_32 200 u4 (a1) (a2) (a3) (1 - a2) (r1) (r3) (0) H locs ls hP hD hS (lv_sub hl [4, 5, 6, 7, 3, 2, 1, 0] rfl) hF

theorem d_V_mayBlock_0 : decode b_V_mayBlock 0 = .ok (.iload_n 1, 1) := by decide +kernel
theorem d_V_mayBlock_1 : decode b_V_mayBlock 1 = .ok (.iload_n 2, 1) := by decide +kernel
theorem d_V_mayBlock_2 : decode b_V_mayBlock 2 = .ok (.if_icmp .eq 52, 3) := by decide +kernel
theorem d_V_mayBlock_5 : decode b_V_mayBlock 5 = .ok (.aload_n 0, 1) := by decide +kernel
theorem d_V_mayBlock_6 : decode b_V_mayBlock 6 = .ok (.getfield 9, 3) := by decide +kernel
theorem d_V_mayBlock_9 : decode b_V_mayBlock 9 = .ok (.iload_n 1, 1) := by decide +kernel
theorem d_V_mayBlock_10 : decode b_V_mayBlock 10 = .ok (.iconst 5, 1) := by decide +kernel
theorem d_V_mayBlock_11 : decode b_V_mayBlock 11 = .ok (.invokevirtual 23, 3) := by decide +kernel
theorem d_V_mayBlock_14 : decode b_V_mayBlock 14 = .ok (.iconst 2, 1) := by decide +kernel
theorem d_V_mayBlock_15 : decode b_V_mayBlock 15 = .ok (.if_icmp .ne 39, 3) := by decide +kernel
theorem d_V_mayBlock_18 : decode b_V_mayBlock 18 = .ok (.aload_n 0, 1) := by decide +kernel
theorem d_V_mayBlock_19 : decode b_V_mayBlock 19 = .ok (.getfield 9, 3) := by decide +kernel
theorem d_V_mayBlock_22 : decode b_V_mayBlock 22 = .ok (.iload_n 2, 1) := by decide +kernel
theorem d_V_mayBlock_23 : decode b_V_mayBlock 23 = .ok (.bipush 11, 2) := by decide +kernel
theorem d_V_mayBlock_25 : decode b_V_mayBlock 25 = .ok (.invokevirtual 23, 3) := by decide +kernel
theorem d_V_mayBlock_28 : decode b_V_mayBlock 28 = .ok (.iconst 1, 1) := by decide +kernel
theorem d_V_mayBlock_29 : decode b_V_mayBlock 29 = .ok (.isub, 1) := by decide +kernel
theorem d_V_mayBlock_30 : decode b_V_mayBlock 30 = .ok (.iload_n 1, 1) := by decide +kernel
theorem d_V_mayBlock_31 : decode b_V_mayBlock 31 = .ok (.if_icmp .eq 23, 3) := by decide +kernel
theorem d_V_mayBlock_34 : decode b_V_mayBlock 34 = .ok (.aload_n 0, 1) := by decide +kernel
theorem d_V_mayBlock_35 : decode b_V_mayBlock 35 = .ok (.getfield 9, 3) := by decide +kernel
theorem d_V_mayBlock_38 : decode b_V_mayBlock 38 = .ok (.iload_n 1, 1) := by decide +kernel
theorem d_V_mayBlock_39 : decode b_V_mayBlock 39 = .ok (.bipush 11, 2) := by decide +kernel
theorem d_V_mayBlock_41 : decode b_V_mayBlock 41 = .ok (.invokevirtual 23, 3) := by decide +kernel
theorem d_V_mayBlock_44 : decode b_V_mayBlock 44 = .ok (.iconst 1, 1) := by decide +kernel
theorem d_V_mayBlock_45 : decode b_V_mayBlock 45 = .ok (.isub, 1) := by decide +kernel
theorem d_V_mayBlock_46 : decode b_V_mayBlock 46 = .ok (.iload_n 2, 1) := by decide +kernel
theorem d_V_mayBlock_47 : decode b_V_mayBlock 47 = .ok (.if_icmp .eq 7, 3) := by decide +kernel
theorem d_V_mayBlock_50 : decode b_V_mayBlock 50 = .ok (.iconst 1, 1) := by decide +kernel
theorem d_V_mayBlock_51 : decode b_V_mayBlock 51 = .ok (.goto 4, 3) := by decide +kernel
theorem d_V_mayBlock_54 : decode b_V_mayBlock 54 = .ok (.iconst 0, 1) := by decide +kernel
theorem d_V_mayBlock_55 : decode b_V_mayBlock 55 = .ok (.ireturn, 1) := by decide +kernel
def f_V_mayBlock (g : Sg) (a1 : Int32) (a2 : Int32) : Option (Int32 × Sg) := (if a1 = a2 then (some (0, g)) else (qs_bn (f_E_wholeField g (a1) (5)) fun r2 u3 => (if r2 = 2 then (qs_bn (f_E_wholeField u3 (a2) (11)) fun r5 u6 => (if (r5 - 1) = a1 then (some (0, u6)) else (qs_bn (f_E_wholeField u6 (a1) (11)) fun r8 u9 => (if (r8 - 1) = a2 then (some (0, u9)) else (some (1, u9)))))) else (some (0, u3)))))
set_option maxHeartbeats 4000000 in
set_option maxRecDepth 100000 in
theorem c_V_mayBlock (l : Launch) (dC : Nat → ClassId) (dI : Nat → Nat → Nat) (h : Nat → Nat) (c : Nat → ClassId) (sz : Nat) (g : Sg) (a1 : Int32) (a2 : Int32) (r0 : Int32) (u0 : Sg) (hF : f_V_mayBlock g a1 a2 = some (r0, u0)) : Met l y_V_mayBlock (qs_ws y_V_mayBlock b_V_mayBlock 3 (some .boolean)) ({ frames := 2, cells := 0, slots := 0, locals := 44 } : Room) (va_Pc ([.ref (h 5), .int a1, .int a2] : List Value) (fun U => U.heap.size = sz ∧ va_P (dC, dI) vwCl (qs_W h c g) U.heap ∧ va_K (dC, dI) vwCl (qs_T c) U ∧ va_D (fun _ => True) (qs_W h c g) ∧ qs_N U)) (va_Qi (fun (r : Int32) (u : Sg) => r = r0 ∧ u = u0) (qs_at dC dI h c (va_A (qs_W h c g) sz)) (va_A (qs_W h c g) sz)) 0 0 (va_A (qs_W h c g) sz) := by
  refine Met.ofW (cc := b_V_mayBlock) (maxL := 3) (ret := (some .boolean)) (by decide +kernel) rfl ?_
  intro p e s m args below meth cd s₁ B hml hv
  obtain ⟨rfl, hsz, hP, hK, hD0, hNs⟩ := hv
  have hx := B.exec
  have hb := B.bytes
  have hr := B.returns
  have hts := atoms_spec (ws := (qs_ws y_V_mayBlock b_V_mayBlock 3 (some .boolean))) B.pre
  have hg : ∀ w ∈ qs_gt, w.before _ s = true := fun w h => hts w (List.mem_cons_of_mem _ h)
  have hown : s.vm.findClass R_V = some m.cls := findClass_of_methodNamed B.named
  have hlocks := B.notSynchronized
  subst hsz
  have hD := hD0.self (sz := s.heap.size)
  generalize hAe : va_A (qs_W h c g) s.heap.size = A at hD ⊢
  have hA : ∀ q : Nat, s.heap.size ≤ q → A q := fun q h => by rw [← hAe]; exact Or.inr h
  have hS : va_S A s.heap s.heap [] := va_S.rf
  have hl := lv_entry ([.ref (h 5), .int a1, .int a2] : List Value) (n := 3) (Nat.le_of_ble_eq_true rfl)
  rw [lg_entry_eq]
  generalize (lg_sl ([.ref (h 5), .int a1, .int a2] : List Value) ++ List.replicate (3 - (lg_sl ([.ref (h 5), .int a1, .int a2] : List Value)).length) Slot.unset).toArray = ls at hl ⊢
  have hl : lv_has ls 3 [(0, .ref (h 5)), (1, .int (a1)), (2, .int (a2))] := hl
  unfold f_V_mayBlock at hF
  obtain ⟨H, hHe⟩ : ∃ H, H = s.heap := ⟨_, rfl⟩
  obtain ⟨locs, hLe⟩ : ∃ L : List Loc, L = [] := ⟨_, rfl⟩
  rw [← hHe] at hP ⊢
  rw [← hLe]
  have hS : va_S A s.heap H locs := by rw [hHe, hLe]; exact hS
  refine lv_iload_n hx hb d_V_mayBlock_0 rfl (lv_at hl 1 rfl) ?_
  refine lv_iload_n hx hb d_V_mayBlock_1 rfl (lv_at hl 2 rfl) ?_
  refine lv_icmp_eq (tgt := 54) hx hb d_V_mayBlock_2 (by decide) (fun c1 => ?_) (fun c1 => ?_)
  · have hF := qs_pos c1 hF
    refine lv_iconst (v := 0) hx hb d_V_mayBlock_54 (by decide) ?_
    obtain ⟨h8, h9⟩ := qs_ret hF
    exact W.zret (ty := .boolean) (v := 0) hx hb hr rfl (fun t ht hW => ⟨⟨0, g, rfl, ⟨h8, h9⟩, by rw [ht]; exact hP, va_K.moved hW.alike hK, hD⟩, hS.F ht⟩) hS.2.2 d_V_mayBlock_55
  · have hF := qs_neg c1 hF
    refine lv_aload_n hx hb d_V_mayBlock_5 rfl (lv_at hl 0 rfl) ?_
    refine va_get (D := (dC, dI)) (ci := 4) (v := .ref (h 1)) (C := R_V) (T := T_V) (N := 6) hx hb hg in_V hown hK hP 5 rfl rfl 0 (by decide) (hg _ t_123) (fun _ h9 => h9) rfl d_V_mayBlock_6 ?_
    refine lv_iload_n hx hb d_V_mayBlock_9 rfl (lv_at hl 1 rfl) ?_
    refine lv_iconst (v := 5) hx hb d_V_mayBlock_10 (by decide) ?_
    obtain ⟨r2, u3, hX, hF⟩ := qs_bn_some hF
    refine qs_ci (Wd := qs_W h c) (isC := [0, 1, 2, 3, 4, 5, 6, 7, 8, 9, 10, 11, 12, 13, 14, 15, 16]) (va_runV (own := "QuakeServer$Mover") (C := "QuakeServer$Entities") (As := [.int (a1), .int (5)]) (rest := []) ⟨hx, hb, hml, hown, hg⟩ (c_E_wholeField l dC dI h c H.size g (a1) (5) r2 u3 hX) (cwV 2 hg (qs_gV t_508 t_509 t_510 t_2 t_511) rfl rfl rfl (by decide +kernel) ⟨Nat.le_of_ble_eq_true rfl, Nat.le_of_ble_eq_true rfl⟩) ⟨qs_blind, va_recv hK hP (ci := 0) (q0 := 1) rfl rfl, fun U hU hW => ⟨rfl, by rw [hU], by rw [hU]; exact hP, va_K.moved hW.alike hK, hD.weaken (fun _ _ _ _ => trivial), hNs.warm hW⟩⟩ rfl rfl hl.1 rfl (lv_room (Nat.le_of_ble_eq_true rfl)) d_V_mayBlock_11 ⟨Nat.le_of_ble_eq_true rfl, Nat.le_of_ble_eq_true rfl⟩) rfl hP hD hS hA (fun H locs hP hD hS => ?_)
    refine lv_iconst (v := 2) hx hb d_V_mayBlock_14 (by decide) ?_
    refine lv_icmp_ne (tgt := 54) hx hb d_V_mayBlock_15 (by decide) (fun c4 => ?_) (fun c4 => ?_)
    · have hF := qs_neg c4 hF
      refine lv_iconst (v := 0) hx hb d_V_mayBlock_54 (by decide) ?_
      obtain ⟨h8, h9⟩ := qs_ret hF
      exact W.zret (ty := .boolean) (v := 0) hx hb hr rfl (fun t ht hW => ⟨⟨0, u3, rfl, ⟨h8, h9⟩, by rw [ht]; exact hP, va_K.moved hW.alike hK, hD⟩, hS.F ht⟩) hS.2.2 d_V_mayBlock_55
    · have hF := qs_pos c4 hF
      refine lv_aload_n hx hb d_V_mayBlock_18 rfl (lv_at hl 0 rfl) ?_
      refine va_get (D := (dC, dI)) (ci := 4) (v := .ref (h 1)) (C := R_V) (T := T_V) (N := 6) hx hb hg in_V hown hK hP 5 rfl rfl 0 (by decide) (hg _ t_123) (fun _ h9 => h9) rfl d_V_mayBlock_19 ?_
      refine lv_iload_n hx hb d_V_mayBlock_22 rfl (lv_at hl 2 rfl) ?_
      refine lv_bipush (v := 11) hx hb d_V_mayBlock_23 (by decide) ?_
      obtain ⟨r5, u6, hX, hF⟩ := qs_bn_some hF
      refine qs_ci (Wd := qs_W h c) (isC := [0, 1, 2, 3, 4, 5, 6, 7, 8, 9, 10, 11, 12, 13, 14, 15, 16]) (va_runV (own := "QuakeServer$Mover") (C := "QuakeServer$Entities") (As := [.int (a2), .int (11)]) (rest := []) ⟨hx, hb, hml, hown, hg⟩ (c_E_wholeField l dC dI h c H.size u3 (a2) (11) r5 u6 hX) (cwV 2 hg (qs_gV t_508 t_509 t_510 t_2 t_511) rfl rfl rfl (by decide +kernel) ⟨Nat.le_of_ble_eq_true rfl, Nat.le_of_ble_eq_true rfl⟩) ⟨qs_blind, va_recv hK hP (ci := 0) (q0 := 1) rfl rfl, fun U hU hW => ⟨rfl, by rw [hU], by rw [hU]; exact hP, va_K.moved hW.alike hK, hD.weaken (fun _ _ _ _ => trivial), hNs.warm hW⟩⟩ rfl rfl hl.1 rfl (lv_room (Nat.le_of_ble_eq_true rfl)) d_V_mayBlock_25 ⟨Nat.le_of_ble_eq_true rfl, Nat.le_of_ble_eq_true rfl⟩) rfl hP hD hS hA (fun H locs hP hD hS => ?_)
      refine lv_iconst (v := 1) hx hb d_V_mayBlock_28 (by decide) ?_
      refine lv_isub hx hb d_V_mayBlock_29 ?_
      refine lv_iload_n hx hb d_V_mayBlock_30 rfl (lv_at hl 1 rfl) ?_
      refine lv_icmp_eq (tgt := 54) hx hb d_V_mayBlock_31 (by decide) (fun c7 => ?_) (fun c7 => ?_)
      · have hF := qs_pos c7 hF
        refine lv_iconst (v := 0) hx hb d_V_mayBlock_54 (by decide) ?_
        obtain ⟨h8, h9⟩ := qs_ret hF
        exact W.zret (ty := .boolean) (v := 0) hx hb hr rfl (fun t ht hW => ⟨⟨0, u6, rfl, ⟨h8, h9⟩, by rw [ht]; exact hP, va_K.moved hW.alike hK, hD⟩, hS.F ht⟩) hS.2.2 d_V_mayBlock_55
      · have hF := qs_neg c7 hF
        refine lv_aload_n hx hb d_V_mayBlock_34 rfl (lv_at hl 0 rfl) ?_
        refine va_get (D := (dC, dI)) (ci := 4) (v := .ref (h 1)) (C := R_V) (T := T_V) (N := 6) hx hb hg in_V hown hK hP 5 rfl rfl 0 (by decide) (hg _ t_123) (fun _ h9 => h9) rfl d_V_mayBlock_35 ?_
        refine lv_iload_n hx hb d_V_mayBlock_38 rfl (lv_at hl 1 rfl) ?_
        refine lv_bipush (v := 11) hx hb d_V_mayBlock_39 (by decide) ?_
        obtain ⟨r8, u9, hX, hF⟩ := qs_bn_some hF
        refine qs_ci (Wd := qs_W h c) (isC := [0, 1, 2, 3, 4, 5, 6, 7, 8, 9, 10, 11, 12, 13, 14, 15, 16]) (va_runV (own := "QuakeServer$Mover") (C := "QuakeServer$Entities") (As := [.int (a1), .int (11)]) (rest := []) ⟨hx, hb, hml, hown, hg⟩ (c_E_wholeField l dC dI h c H.size u6 (a1) (11) r8 u9 hX) (cwV 2 hg (qs_gV t_508 t_509 t_510 t_2 t_511) rfl rfl rfl (by decide +kernel) ⟨Nat.le_of_ble_eq_true rfl, Nat.le_of_ble_eq_true rfl⟩) ⟨qs_blind, va_recv hK hP (ci := 0) (q0 := 1) rfl rfl, fun U hU hW => ⟨rfl, by rw [hU], by rw [hU]; exact hP, va_K.moved hW.alike hK, hD.weaken (fun _ _ _ _ => trivial), hNs.warm hW⟩⟩ rfl rfl hl.1 rfl (lv_room (Nat.le_of_ble_eq_true rfl)) d_V_mayBlock_41 ⟨Nat.le_of_ble_eq_true rfl, Nat.le_of_ble_eq_true rfl⟩) rfl hP hD hS hA (fun H locs hP hD hS => ?_)
        refine lv_iconst (v := 1) hx hb d_V_mayBlock_44 (by decide) ?_
        refine lv_isub hx hb d_V_mayBlock_45 ?_
        refine lv_iload_n hx hb d_V_mayBlock_46 rfl (lv_at hl 2 rfl) ?_
        refine lv_icmp_eq (tgt := 54) hx hb d_V_mayBlock_47 (by decide) (fun c10 => ?_) (fun c10 => ?_)
        · have hF := qs_pos c10 hF
          refine lv_iconst (v := 0) hx hb d_V_mayBlock_54 (by decide) ?_
          obtain ⟨h8, h9⟩ := qs_ret hF
          exact W.zret (ty := .boolean) (v := 0) hx hb hr rfl (fun t ht hW => ⟨⟨0, u9, rfl, ⟨h8, h9⟩, by rw [ht]; exact hP, va_K.moved hW.alike hK, hD⟩, hS.F ht⟩) hS.2.2 d_V_mayBlock_55
        · have hF := qs_neg c10 hF
          refine lv_iconst (v := 1) hx hb d_V_mayBlock_50 (by decide) ?_
          refine lv_goto (tgt := 55) hx hb d_V_mayBlock_51 (by decide) ?_
          obtain ⟨h8, h9⟩ := qs_ret hF
          exact W.zret (ty := .boolean) (v := 1) hx hb hr rfl (fun t ht hW => ⟨⟨1, u9, rfl, ⟨h8, h9⟩, by rw [ht]; exact hP, va_K.moved hW.alike hK, hD⟩, hS.F ht⟩) hS.2.2 d_V_mayBlock_55

theorem d_V_meetEntities_0 : decode b_V_meetEntities 0 = .ok (.iconst 0, 1) := by decide +kernel
theorem d_V_meetEntities_1 : decode b_V_meetEntities 1 = .ok (.istore 4, 2) := by decide +kernel
theorem d_V_meetEntities_3 : decode b_V_meetEntities 3 = .ok (.iload 4, 2) := by decide +kernel
theorem d_V_meetEntities_5 : decode b_V_meetEntities 5 = .ok (.bipush 12, 2) := by decide +kernel
theorem d_V_meetEntities_7 : decode b_V_meetEntities 7 = .ok (.if_icmp .ge 92, 3) := by decide +kernel
theorem d_V_meetEntities_10 : decode b_V_meetEntities 10 = .ok (.aload_n 0, 1) := by decide +kernel
theorem d_V_meetEntities_11 : decode b_V_meetEntities 11 = .ok (.iload 4, 2) := by decide +kernel
theorem d_V_meetEntities_13 : decode b_V_meetEntities 13 = .ok (.iload_n 1, 1) := by decide +kernel
theorem d_V_meetEntities_14 : decode b_V_meetEntities 14 = .ok (.invokevirtual 106, 3) := by decide +kernel
theorem d_V_meetEntities_17 : decode b_V_meetEntities 17 = .ok (.ifCond .eq 76, 3) := by decide +kernel
theorem d_V_meetEntities_20 : decode b_V_meetEntities 20 = .ok (.aload_n 0, 1) := by decide +kernel
theorem d_V_meetEntities_21 : decode b_V_meetEntities 21 = .ok (.getfield 9, 3) := by decide +kernel
theorem d_V_meetEntities_24 : decode b_V_meetEntities 24 = .ok (.iload 4, 2) := by decide +kernel
theorem d_V_meetEntities_26 : decode b_V_meetEntities 26 = .ok (.iload_n 1, 1) := by decide +kernel
theorem d_V_meetEntities_27 : decode b_V_meetEntities 27 = .ok (.iconst 1, 1) := by decide +kernel
theorem d_V_meetEntities_28 : decode b_V_meetEntities 28 = .ok (.iload_n 2, 1) := by decide +kernel
theorem d_V_meetEntities_29 : decode b_V_meetEntities 29 = .ok (.isub, 1) := by decide +kernel
theorem d_V_meetEntities_30 : decode b_V_meetEntities 30 = .ok (.invokevirtual 110, 3) := by decide +kernel
theorem d_V_meetEntities_33 : decode b_V_meetEntities 33 = .ok (.ifCond .eq 60, 3) := by decide +kernel
theorem d_V_meetEntities_36 : decode b_V_meetEntities 36 = .ok (.iload_n 3, 1) := by decide +kernel
theorem d_V_meetEntities_37 : decode b_V_meetEntities 37 = .ok (.ifCond .eq 26, 3) := by decide +kernel
theorem d_V_meetEntities_40 : decode b_V_meetEntities 40 = .ok (.aload_n 0, 1) := by decide +kernel
theorem d_V_meetEntities_41 : decode b_V_meetEntities 41 = .ok (.getfield 9, 3) := by decide +kernel
theorem d_V_meetEntities_44 : decode b_V_meetEntities 44 = .ok (.iload 4, 2) := by decide +kernel
theorem d_V_meetEntities_46 : decode b_V_meetEntities 46 = .ok (.iload_n 2, 1) := by decide +kernel
theorem d_V_meetEntities_47 : decode b_V_meetEntities 47 = .ok (.invokevirtual 90, 3) := by decide +kernel
theorem d_V_meetEntities_50 : decode b_V_meetEntities 50 = .ok (.aload_n 0, 1) := by decide +kernel
theorem d_V_meetEntities_51 : decode b_V_meetEntities 51 = .ok (.getfield 9, 3) := by decide +kernel
theorem d_V_meetEntities_54 : decode b_V_meetEntities 54 = .ok (.iload_n 1, 1) := by decide +kernel
theorem d_V_meetEntities_55 : decode b_V_meetEntities 55 = .ok (.iload_n 2, 1) := by decide +kernel
theorem d_V_meetEntities_56 : decode b_V_meetEntities 56 = .ok (.invokevirtual 93, 3) := by decide +kernel
theorem d_V_meetEntities_59 : decode b_V_meetEntities 59 = .ok (.isub, 1) := by decide +kernel
theorem d_V_meetEntities_60 : decode b_V_meetEntities 60 = .ok (.goto 23, 3) := by decide +kernel
theorem d_V_meetEntities_63 : decode b_V_meetEntities 63 = .ok (.aload_n 0, 1) := by decide +kernel
theorem d_V_meetEntities_64 : decode b_V_meetEntities 64 = .ok (.getfield 9, 3) := by decide +kernel
theorem d_V_meetEntities_67 : decode b_V_meetEntities 67 = .ok (.iload_n 1, 1) := by decide +kernel
theorem d_V_meetEntities_68 : decode b_V_meetEntities 68 = .ok (.iload_n 2, 1) := by decide +kernel
theorem d_V_meetEntities_69 : decode b_V_meetEntities 69 = .ok (.invokevirtual 90, 3) := by decide +kernel
theorem d_V_meetEntities_72 : decode b_V_meetEntities 72 = .ok (.aload_n 0, 1) := by decide +kernel
theorem d_V_meetEntities_73 : decode b_V_meetEntities 73 = .ok (.getfield 9, 3) := by decide +kernel
theorem d_V_meetEntities_76 : decode b_V_meetEntities 76 = .ok (.iload 4, 2) := by decide +kernel
theorem d_V_meetEntities_78 : decode b_V_meetEntities 78 = .ok (.iload_n 2, 1) := by decide +kernel
theorem d_V_meetEntities_79 : decode b_V_meetEntities 79 = .ok (.invokevirtual 93, 3) := by decide +kernel
theorem d_V_meetEntities_82 : decode b_V_meetEntities 82 = .ok (.isub, 1) := by decide +kernel
theorem d_V_meetEntities_83 : decode b_V_meetEntities 83 = .ok (.istore 5, 2) := by decide +kernel
theorem d_V_meetEntities_85 : decode b_V_meetEntities 85 = .ok (.aload_n 0, 1) := by decide +kernel
theorem d_V_meetEntities_86 : decode b_V_meetEntities 86 = .ok (.iload 4, 2) := by decide +kernel
theorem d_V_meetEntities_88 : decode b_V_meetEntities 88 = .ok (.iload 5, 2) := by decide +kernel
theorem d_V_meetEntities_90 : decode b_V_meetEntities 90 = .ok (.invokevirtual 103, 3) := by decide +kernel
theorem d_V_meetEntities_93 : decode b_V_meetEntities 93 = .ok (.iinc 4 1, 3) := by decide +kernel
theorem d_V_meetEntities_96 : decode b_V_meetEntities 96 = .ok (.goto (-93), 3) := by decide +kernel
theorem d_V_meetEntities_99 : decode b_V_meetEntities 99 = .ok (.return_, 1) := by decide +kernel
def f_V_meetEntities_93 (k3 : Sg → Int32 → Int32 → Int32 → Int32 → Option (Unit × Sg)) (g : Sg) (x1 : Int32) (x2 : Int32) (x3 : Int32) (x4 : Int32) : Option (Unit × Sg) := (k3 g (x1) (x2) (x3) (x4 + 1))
def f_V_meetEntities_83 (k3 : Sg → Int32 → Int32 → Int32 → Int32 → Option (Unit × Sg)) (g : Sg) (x1 : Int32) (x2 : Int32) (x3 : Int32) (x4 : Int32) (y0 : Int32) : Option (Unit × Sg) := (qs_bn (f_V_meet g (x4) (y0)) fun _ u18 => (f_V_meetEntities_93 k3 u18 (x1) (x2) (x3) (x4)))
def f_V_meetEntities_3  : Nat → Sg → Int32 → Int32 → Int32 → Int32 → Option (Unit × Sg)
  | 0, _, _, _, _, _ => none
  | n + 1, g, x1, x2, x3, x4 => (if 12 ≤ x4 then (some ((), g)) else (qs_bn (f_V_mayBlock g (x4) (x1)) fun r2 u3 => (if r2 = 0 then (f_V_meetEntities_93 (fun g x1 x2 x3 x4 => f_V_meetEntities_3  n g x1 x2 x3 x4) u3 (x1) (x2) (x3) (x4)) else (qs_bn (f_E_boxesOverlap u3 (x4) (x1) (1 - x2)) fun r5 u6 => (if r5 = 0 then (f_V_meetEntities_93 (fun g x1 x2 x3 x4 => f_V_meetEntities_3  n g x1 x2 x3 x4) u6 (x1) (x2) (x3) (x4)) else (if x3 = 0 then (qs_bn (f_E_low u6 (x1) (x2)) fun r9 u10 => (qs_bn (f_E_high u10 (x4) (x2)) fun r11 u12 => (f_V_meetEntities_83 (fun g x1 x2 x3 x4 => f_V_meetEntities_3  n g x1 x2 x3 x4) u12 (x1) (x2) (x3) (x4) (r9 - r11)))) else (qs_bn (f_E_low u6 (x4) (x2)) fun r13 u14 => (qs_bn (f_E_high u14 (x1) (x2)) fun r15 u16 => (f_V_meetEntities_83 (fun g x1 x2 x3 x4 => f_V_meetEntities_3  n g x1 x2 x3 x4) u16 (x1) (x2) (x3) (x4) (r13 - r15))))))))))
def f_V_meetEntities (g : Sg) (a1 : Int32) (a2 : Int32) (a3 : Int32) : Option (Unit × Sg) := (f_V_meetEntities_3 200 g (a1) (a2) (a3) (0))
set_option maxHeartbeats 4000000 in
set_option maxRecDepth 100000 in
theorem c_V_meetEntities (l : Launch) (dC : Nat → ClassId) (dI : Nat → Nat → Nat) (h : Nat → Nat) (c : Nat → ClassId) (sz : Nat) (g : Sg) (a1 : Int32) (a2 : Int32) (a3 : Int32) (u0 : Sg) (hF : f_V_meetEntities g a1 a2 a3 = some ((), u0)) : Met l y_V_meetEntities (qs_ws y_V_meetEntities b_V_meetEntities 6 none) ({ frames := 3, cells := 0, slots := 0, locals := 68 } : Room) (va_Pc ([.ref (h 5), .int a1, .int a2, .int a3] : List Value) (fun U => U.heap.size = sz ∧ va_P (dC, dI) vwCl (qs_W h c g) U.heap ∧ va_K (dC, dI) vwCl (qs_T c) U ∧ va_D (fun _ => True) (qs_W h c g) ∧ qs_N U)) (va_Qv (fun (u : Sg) => u = u0) (qs_at dC dI h c (va_A (qs_W h c g) sz)) (va_A (qs_W h c g) sz)) 0 0 (va_A (qs_W h c g) sz) := by
  refine Met.ofW (cc := b_V_meetEntities) (maxL := 6) (ret := none) (by decide +kernel) rfl ?_
  intro p e s m args below meth cd s₁ B hml hv
  obtain ⟨rfl, hsz, hP, hK, hD0, hNs⟩ := hv
  have hx := B.exec
  have hb := B.bytes
  have hr := B.returns
  have hts := atoms_spec (ws := (qs_ws y_V_meetEntities b_V_meetEntities 6 none)) B.pre
  have hg : ∀ w ∈ qs_gt, w.before _ s = true := fun w h => hts w (List.mem_cons_of_mem _ h)
  have hown : s.vm.findClass R_V = some m.cls := findClass_of_methodNamed B.named
  have hlocks := B.notSynchronized
  subst hsz
  have hD := hD0.self (sz := s.heap.size)
  generalize hAe : va_A (qs_W h c g) s.heap.size = A at hD ⊢
  have hA : ∀ q : Nat, s.heap.size ≤ q → A q := fun q h => by rw [← hAe]; exact Or.inr h
  have hS : va_S A s.heap s.heap [] := va_S.rf
  have kb_93 : ∀ (k3 : Sg → Int32 → Int32 → Int32 → Int32 → Option (Unit × Sg)), (∀ (g : Sg) (x1 : Int32) (x2 : Int32) (x3 : Int32) (x4 : Int32) (H : Heap) (locs : List Loc) (ls : Array Slot), va_P (dC, dI) vwCl (qs_W h c g) H → va_D A (qs_W h c g) → va_S A s.heap H locs → lv_has ls 6 [(0, .ref (h 5)), (1, .int (x1)), (2, .int (x2)), (3, .int (x3)), (4, .int (x4))] → k3 g x1 x2 x3 x4 = some ((), u0) → W p l e (headSpec (qs_ws y_V_meetEntities b_V_meetEntities 6 none) ({ frames := 3, cells := 0, slots := 0, locals := 68 } : Room)).room s m ([.ref (h 5), .int a1, .int a2, .int a3] : List Value).toArray below meth cd H locs 0 0 (MQ below (va_Qv (fun (u : Sg) => u = u0) (qs_at dC dI h c A) A) ([.ref (h 5), .int a1, .int a2, .int a3] : List Value).toArray s 0 0 A) (F0 m 3 ls [])) → ∀ (g : Sg) (x1 : Int32) (x2 : Int32) (x3 : Int32) (x4 : Int32) (H : Heap) (locs : List Loc) (ls : Array Slot), va_P (dC, dI) vwCl (qs_W h c g) H → va_D A (qs_W h c g) → va_S A s.heap H locs → lv_has ls 6 [(0, .ref (h 5)), (1, .int (x1)), (2, .int (x2)), (3, .int (x3)), (4, .int (x4))] → f_V_meetEntities_93 k3  g x1 x2 x3 x4 = some ((), u0) → W p l e (headSpec (qs_ws y_V_meetEntities b_V_meetEntities 6 none) ({ frames := 3, cells := 0, slots := 0, locals := 68 } : Room)).room s m ([.ref (h 5), .int a1, .int a2, .int a3] : List Value).toArray below meth cd H locs 0 0 (MQ below (va_Qv (fun (u : Sg) => u = u0) (qs_at dC dI h c A) A) ([.ref (h 5), .int a1, .int a2, .int a3] : List Value).toArray s 0 0 A) (F0 m 93 ls []) := by
    intro k3 hk3
    intro g x1 x2 x3 x4 H locs ls hP hD hS hl hF
    unfold f_V_meetEntities_93 at hF
    refine lv_iinc (v := x4 + 1) (lv' := [(4, .int (x4 + 1)), (0, .ref (h 5)), (1, .int (x1)), (2, .int (x2)), (3, .int (x3))]) hx hb d_V_meetEntities_93 hl (k := 4) rfl (by rfl) (by decide) rfl (fun ls hl => ?_)
    refine lv_goto (tgt := 3) hx hb d_V_meetEntities_96 (by decide) ?_
    exact hk3 g (x1) (x2) (x3) (x4 + 1) H locs ls hP hD hS (lv_sub hl [1, 2, 3, 4, 0] rfl) hF
  have kb_83 : ∀ (k3 : Sg → Int32 → Int32 → Int32 → Int32 → Option (Unit × Sg)), (∀ (g : Sg) (x1 : Int32) (x2 : Int32) (x3 : Int32) (x4 : Int32) (H : Heap) (locs : List Loc) (ls : Array Slot), va_P (dC, dI) vwCl (qs_W h c g) H → va_D A (qs_W h c g) → va_S A s.heap H locs → lv_has ls 6 [(0, .ref (h 5)), (1, .int (x1)), (2, .int (x2)), (3, .int (x3)), (4, .int (x4))] → k3 g x1 x2 x3 x4 = some ((), u0) → W p l e (headSpec (qs_ws y_V_meetEntities b_V_meetEntities 6 none) ({ frames := 3, cells := 0, slots := 0, locals := 68 } : Room)).room s m ([.ref (h 5), .int a1, .int a2, .int a3] : List Value).toArray below meth cd H locs 0 0 (MQ below (va_Qv (fun (u : Sg) => u = u0) (qs_at dC dI h c A) A) ([.ref (h 5), .int a1, .int a2, .int a3] : List Value).toArray s 0 0 A) (F0 m 3 ls [])) → ∀ (g : Sg) (x1 : Int32) (x2 : Int32) (x3 : Int32) (x4 : Int32) (y0 : Int32) (H : Heap) (locs : List Loc) (ls : Array Slot), va_P (dC, dI) vwCl (qs_W h c g) H → va_D A (qs_W h c g) → va_S A s.heap H locs → lv_has ls 6 [(0, .ref (h 5)), (1, .int (x1)), (2, .int (x2)), (3, .int (x3)), (4, .int (x4))] → f_V_meetEntities_83 k3  g x1 x2 x3 x4 y0 = some ((), u0) → W p l e (headSpec (qs_ws y_V_meetEntities b_V_meetEntities 6 none) ({ frames := 3, cells := 0, slots := 0, locals := 68 } : Room)).room s m ([.ref (h 5), .int a1, .int a2, .int a3] : List Value).toArray below meth cd H locs 0 0 (MQ below (va_Qv (fun (u : Sg) => u = u0) (qs_at dC dI h c A) A) ([.ref (h 5), .int a1, .int a2, .int a3] : List Value).toArray s 0 0 A) (F0 m 83 ls [.int (y0)]) := by
    intro k3 hk3
    intro g x1 x2 x3 x4 y0 H locs ls hP hD hS hl hF
    unfold f_V_meetEntities_83 at hF
    refine lv_istore (lv' := [(5, .int (y0)), (0, .ref (h 5)), (1, .int (x1)), (2, .int (x2)), (3, .int (x3)), (4, .int (x4))]) hx hb d_V_meetEntities_83 hl (by decide) rfl (fun ls hl => ?_)
    refine lv_aload_n hx hb d_V_meetEntities_85 rfl (lv_at hl 1 rfl) ?_
    refine lv_iload hx hb d_V_meetEntities_86 (lv_at hl 5 rfl) ?_
    refine lv_iload hx hb d_V_meetEntities_88 (lv_at hl 0 rfl) ?_
    obtain ⟨r17, u18, hX, hF⟩ := qs_bn_some hF
    refine qs_cv (Wd := qs_W h c) (isC := [0, 1, 2, 3, 4, 5, 6, 7, 8, 9, 10, 11, 12, 13, 14, 15, 16]) (va_runV (own := "QuakeServer$Mover") (C := "QuakeServer$Mover") (As := [.int (x4), .int (y0)]) (rest := []) ⟨hx, hb, hml, hown, hg⟩ (c_V_meet l dC dI h c H.size g (x4) (y0)  u18 hX) (cwV 2 hg (qs_gV t_561 t_563 tp_12 t_6 t_564) rfl rfl rfl (by decide +kernel) ⟨Nat.le_of_ble_eq_true rfl, Nat.le_of_ble_eq_true rfl⟩) ⟨qs_blind, va_recv hK hP (ci := 4) (q0 := 5) rfl rfl, fun U hU hW => ⟨rfl, by rw [hU], by rw [hU]; exact hP, va_K.moved hW.alike hK, hD.weaken (fun _ _ _ _ => trivial), hNs.warm hW⟩⟩ rfl rfl hl.1 rfl (lv_room (Nat.le_of_ble_eq_true rfl)) d_V_meetEntities_90 ⟨Nat.le_of_ble_eq_true rfl, Nat.le_of_ble_eq_true rfl⟩) rfl hP hD hS hA (fun H locs hP hD hS => ?_)
    exact kb_93 _ hk3 u18 (x1) (x2) (x3) (x4) H locs ls hP hD hS (lv_sub hl [1, 2, 3, 4, 5] rfl) hF
  have kb_3 : ∀ n : Nat, ∀ (g : Sg) (x1 : Int32) (x2 : Int32) (x3 : Int32) (x4 : Int32) (H : Heap) (locs : List Loc) (ls : Array Slot), va_P (dC, dI) vwCl (qs_W h c g) H → va_D A (qs_W h c g) → va_S A s.heap H locs → lv_has ls 6 [(0, .ref (h 5)), (1, .int (x1)), (2, .int (x2)), (3, .int (x3)), (4, .int (x4))] → f_V_meetEntities_3 n g x1 x2 x3 x4 = some ((), u0) → W p l e (headSpec (qs_ws y_V_meetEntities b_V_meetEntities 6 none) ({ frames := 3, cells := 0, slots := 0, locals := 68 } : Room)).room s m ([.ref (h 5), .int a1, .int a2, .int a3] : List Value).toArray below meth cd H locs 0 0 (MQ below (va_Qv (fun (u : Sg) => u = u0) (qs_at dC dI h c A) A) ([.ref (h 5), .int a1, .int a2, .int a3] : List Value).toArray s 0 0 A) (F0 m 3 ls []) := by
    intro n
    induction n with
    | zero =>
      intro g x1 x2 x3 x4 H locs ls hP hD hS hl hF
      exact nomatch (show (none : Option (Unit × Sg)) = some _ from hF)
    | succ n ih =>
      intro g x1 x2 x3 x4 H locs ls hP hD hS hl hF
      rw [f_V_meetEntities_3] at hF
      refine lv_iload hx hb d_V_meetEntities_3 (lv_at hl 4 rfl) ?_
      refine lv_bipush (v := 12) hx hb d_V_meetEntities_5 (by decide) ?_
      refine lv_icmp_ge (tgt := 99) hx hb d_V_meetEntities_7 (by decide) (fun c1 => ?_) (fun c1 => ?_)
      · have hF := qs_pos c1 hF
        obtain ⟨h8, h9⟩ := qs_ret hF
        exact W.vret hx hb hr (fun t ht hW => ⟨⟨g, rfl, h9, by rw [ht]; exact hP, va_K.moved hW.alike hK, hD⟩, hS.F ht⟩) hS.2.2 d_V_meetEntities_99
      · have hF := qs_neg c1 hF
        refine lv_aload_n hx hb d_V_meetEntities_10 rfl (lv_at hl 0 rfl) ?_
        refine lv_iload hx hb d_V_meetEntities_11 (lv_at hl 4 rfl) ?_
        refine lv_iload_n hx hb d_V_meetEntities_13 rfl (lv_at hl 1 rfl) ?_
        obtain ⟨r2, u3, hX, hF⟩ := qs_bn_some hF
        refine qs_ci (Wd := qs_W h c) (isC := [0, 1, 2, 3, 4, 5, 6, 7, 8, 9, 10, 11, 12, 13, 14, 15, 16]) (va_runV (own := "QuakeServer$Mover") (C := "QuakeServer$Mover") (As := [.int (x4), .int (x1)]) (rest := []) ⟨hx, hb, hml, hown, hg⟩ (c_V_mayBlock l dC dI h c H.size g (x4) (x1) r2 u3 hX) (cwV 2 hg (qs_gV t_569 t_571 tp_14 t_6 t_572) rfl rfl rfl (by decide +kernel) ⟨Nat.le_of_ble_eq_true rfl, Nat.le_of_ble_eq_true rfl⟩) ⟨qs_blind, va_recv hK hP (ci := 4) (q0 := 5) rfl rfl, fun U hU hW => ⟨rfl, by rw [hU], by rw [hU]; exact hP, va_K.moved hW.alike hK, hD.weaken (fun _ _ _ _ => trivial), hNs.warm hW⟩⟩ rfl rfl hl.1 rfl (lv_room (Nat.le_of_ble_eq_true rfl)) d_V_meetEntities_14 ⟨Nat.le_of_ble_eq_true rfl, Nat.le_of_ble_eq_true rfl⟩) rfl hP hD hS hA (fun H locs hP hD hS => ?_)
        refine lv_if_eq (tgt := 93) hx hb d_V_meetEntities_17 (by decide) (fun c4 => ?_) (fun c4 => ?_)
        · have hF := qs_pos c4 hF
          exact kb_93 _ ih u3 (x1) (x2) (x3) (x4) H locs ls hP hD hS (lv_sub hl [0, 1, 2, 3, 4] rfl) hF
        · have hF := qs_neg c4 hF
          refine lv_aload_n hx hb d_V_meetEntities_20 rfl (lv_at hl 0 rfl) ?_
          refine va_get (D := (dC, dI)) (ci := 4) (v := .ref (h 1)) (C := R_V) (T := T_V) (N := 6) hx hb hg in_V hown hK hP 5 rfl rfl 0 (by decide) (hg _ t_123) (fun _ h9 => h9) rfl d_V_meetEntities_21 ?_
          refine lv_iload hx hb d_V_meetEntities_24 (lv_at hl 4 rfl) ?_
          refine lv_iload_n hx hb d_V_meetEntities_26 rfl (lv_at hl 1 rfl) ?_
          refine lv_iconst (v := 1) hx hb d_V_meetEntities_27 (by decide) ?_
          refine lv_iload_n hx hb d_V_meetEntities_28 rfl (lv_at hl 2 rfl) ?_
          refine lv_isub hx hb d_V_meetEntities_29 ?_
          obtain ⟨r5, u6, hX, hF⟩ := qs_bn_some hF
          refine qs_ci (Wd := qs_W h c) (isC := [0, 1, 2, 3, 4, 5, 6, 7, 8, 9, 10, 11, 12, 13, 14, 15, 16]) (va_runV (own := "QuakeServer$Mover") (C := "QuakeServer$Entities") (As := [.int (x4), .int (x1), .int (1 - x2)]) (rest := []) ⟨hx, hb, hml, hown, hg⟩ (c_E_boxesOverlap l dC dI h c H.size u3 (x4) (x1) (1 - x2) r5 u6 hX) (cwV 3 hg (qs_gV t_573 t_574 t_575 t_2 t_576) rfl rfl rfl (by decide +kernel) ⟨Nat.le_of_ble_eq_true rfl, Nat.le_of_ble_eq_true rfl⟩) ⟨qs_blind, va_recv hK hP (ci := 0) (q0 := 1) rfl rfl, fun U hU hW => ⟨rfl, by rw [hU], by rw [hU]; exact hP, va_K.moved hW.alike hK, hD.weaken (fun _ _ _ _ => trivial), hNs.warm hW⟩⟩ rfl rfl hl.1 rfl (lv_room (Nat.le_of_ble_eq_true rfl)) d_V_meetEntities_30 ⟨Nat.le_of_ble_eq_true rfl, Nat.le_of_ble_eq_true rfl⟩) rfl hP hD hS hA (fun H locs hP hD hS => ?_)
          refine lv_if_eq (tgt := 93) hx hb d_V_meetEntities_33 (by decide) (fun c7 => ?_) (fun c7 => ?_)
          · have hF := qs_pos c7 hF
            exact kb_93 _ ih u6 (x1) (x2) (x3) (x4) H locs ls hP hD hS (lv_sub hl [0, 1, 2, 3, 4] rfl) hF
          · have hF := qs_neg c7 hF
            refine lv_iload_n hx hb d_V_meetEntities_36 rfl (lv_at hl 3 rfl) ?_
            refine lv_if_eq (tgt := 63) hx hb d_V_meetEntities_37 (by decide) (fun c8 => ?_) (fun c8 => ?_)
            · have hF := qs_pos c8 hF
              refine lv_aload_n hx hb d_V_meetEntities_63 rfl (lv_at hl 0 rfl) ?_
              refine va_get (D := (dC, dI)) (ci := 4) (v := .ref (h 1)) (C := R_V) (T := T_V) (N := 6) hx hb hg in_V hown hK hP 5 rfl rfl 0 (by decide) (hg _ t_123) (fun _ h9 => h9) rfl d_V_meetEntities_64 ?_
              refine lv_iload_n hx hb d_V_meetEntities_67 rfl (lv_at hl 1 rfl) ?_
              refine lv_iload_n hx hb d_V_meetEntities_68 rfl (lv_at hl 2 rfl) ?_
              obtain ⟨r9, u10, hX, hF⟩ := qs_bn_some hF
              refine qs_ci (Wd := qs_W h c) (isC := [0, 1, 2, 3, 4, 5, 6, 7, 8, 9, 10, 11, 12, 13, 14, 15, 16]) (va_runV (own := "QuakeServer$Mover") (C := "QuakeServer$Entities") (As := [.int (x1), .int (x2)]) (rest := []) ⟨hx, hb, hml, hown, hg⟩ (c_E_low l dC dI h c H.size u6 (x1) (x2) r9 u10 hX) (cwV 2 hg (qs_gV t_535 t_536 t_537 t_2 t_538) rfl rfl rfl (by decide +kernel) ⟨Nat.le_of_ble_eq_true rfl, Nat.le_of_ble_eq_true rfl⟩) ⟨qs_blind, va_recv hK hP (ci := 0) (q0 := 1) rfl rfl, fun U hU hW => ⟨rfl, by rw [hU], by rw [hU]; exact hP, va_K.moved hW.alike hK, hD.weaken (fun _ _ _ _ => trivial), hNs.warm hW⟩⟩ rfl rfl hl.1 rfl (lv_room (Nat.le_of_ble_eq_true rfl)) d_V_meetEntities_69 ⟨Nat.le_of_ble_eq_true rfl, Nat.le_of_ble_eq_true rfl⟩) rfl hP hD hS hA (fun H locs hP hD hS => ?_)
              refine lv_aload_n hx hb d_V_meetEntities_72 rfl (lv_at hl 0 rfl) ?_
              refine va_get (D := (dC, dI)) (ci := 4) (v := .ref (h 1)) (C := R_V) (T := T_V) (N := 6) hx hb hg in_V hown hK hP 5 rfl rfl 0 (by decide) (hg _ t_123) (fun _ h9 => h9) rfl d_V_meetEntities_73 ?_
              refine lv_iload hx hb d_V_meetEntities_76 (lv_at hl 4 rfl) ?_
              refine lv_iload_n hx hb d_V_meetEntities_78 rfl (lv_at hl 2 rfl) ?_
              obtain ⟨r11, u12, hX, hF⟩ := qs_bn_some hF
              refine qs_ci (Wd := qs_W h c) (isC := [0, 1, 2, 3, 4, 5, 6, 7, 8, 9, 10, 11, 12, 13, 14, 15, 16]) (va_runV (own := "QuakeServer$Mover") (C := "QuakeServer$Entities") (As := [.int (x4), .int (x2)]) (rest := [.int (r9)]) ⟨hx, hb, hml, hown, hg⟩ (c_E_high l dC dI h c H.size u10 (x4) (x2) r11 u12 hX) (cwV 2 hg (qs_gV t_549 t_550 t_551 t_2 t_552) rfl rfl rfl (by decide +kernel) ⟨Nat.le_of_ble_eq_true rfl, Nat.le_of_ble_eq_true rfl⟩) ⟨qs_blind, va_recv hK hP (ci := 0) (q0 := 1) rfl rfl, fun U hU hW => ⟨rfl, by rw [hU], by rw [hU]; exact hP, va_K.moved hW.alike hK, hD.weaken (fun _ _ _ _ => trivial), hNs.warm hW⟩⟩ rfl rfl hl.1 rfl (lv_room (Nat.le_of_ble_eq_true rfl)) d_V_meetEntities_79 ⟨Nat.le_of_ble_eq_true rfl, Nat.le_of_ble_eq_true rfl⟩) rfl hP hD hS hA (fun H locs hP hD hS => ?_)
              refine lv_isub hx hb d_V_meetEntities_82 ?_
              exact kb_83 _ ih u12 (x1) (x2) (x3) (x4) (r9 - r11) H locs ls hP hD hS (lv_sub hl [0, 1, 2, 3, 4] rfl) hF
            · have hF := qs_neg c8 hF
              refine lv_aload_n hx hb d_V_meetEntities_40 rfl (lv_at hl 0 rfl) ?_
              refine va_get (D := (dC, dI)) (ci := 4) (v := .ref (h 1)) (C := R_V) (T := T_V) (N := 6) hx hb hg in_V hown hK hP 5 rfl rfl 0 (by decide) (hg _ t_123) (fun _ h9 => h9) rfl d_V_meetEntities_41 ?_
              refine lv_iload hx hb d_V_meetEntities_44 (lv_at hl 4 rfl) ?_
              refine lv_iload_n hx hb d_V_meetEntities_46 rfl (lv_at hl 2 rfl) ?_
              obtain ⟨r13, u14, hX, hF⟩ := qs_bn_some hF
              refine qs_ci (Wd := qs_W h c) (isC := [0, 1, 2, 3, 4, 5, 6, 7, 8, 9, 10, 11, 12, 13, 14, 15, 16]) (va_runV (own := "QuakeServer$Mover") (C := "QuakeServer$Entities") (As := [.int (x4), .int (x2)]) (rest := []) ⟨hx, hb, hml, hown, hg⟩ (c_E_low l dC dI h c H.size u6 (x4) (x2) r13 u14 hX) (cwV 2 hg (qs_gV t_535 t_536 t_537 t_2 t_538) rfl rfl rfl (by decide +kernel) ⟨Nat.le_of_ble_eq_true rfl, Nat.le_of_ble_eq_true rfl⟩) ⟨qs_blind, va_recv hK hP (ci := 0) (q0 := 1) rfl rfl, fun U hU hW => ⟨rfl, by rw [hU], by rw [hU]; exact hP, va_K.moved hW.alike hK, hD.weaken (fun _ _ _ _ => trivial), hNs.warm hW⟩⟩ rfl rfl hl.1 rfl (lv_room (Nat.le_of_ble_eq_true rfl)) d_V_meetEntities_47 ⟨Nat.le_of_ble_eq_true rfl, Nat.le_of_ble_eq_true rfl⟩) rfl hP hD hS hA (fun H locs hP hD hS => ?_)
              refine lv_aload_n hx hb d_V_meetEntities_50 rfl (lv_at hl 0 rfl) ?_
              refine va_get (D := (dC, dI)) (ci := 4) (v := .ref (h 1)) (C := R_V) (T := T_V) (N := 6) hx hb hg in_V hown hK hP 5 rfl rfl 0 (by decide) (hg _ t_123) (fun _ h9 => h9) rfl d_V_meetEntities_51 ?_
              refine lv_iload_n hx hb d_V_meetEntities_54 rfl (lv_at hl 1 rfl) ?_
              refine lv_iload_n hx hb d_V_meetEntities_55 rfl (lv_at hl 2 rfl) ?_
              obtain ⟨r15, u16, hX, hF⟩ := qs_bn_some hF
              refine qs_ci (Wd := qs_W h c) (isC := [0, 1, 2, 3, 4, 5, 6, 7, 8, 9, 10, 11, 12, 13, 14, 15, 16]) (va_runV (own := "QuakeServer$Mover") (C := "QuakeServer$Entities") (As := [.int (x1), .int (x2)]) (rest := [.int (r13)]) ⟨hx, hb, hml, hown, hg⟩ (c_E_high l dC dI h c H.size u14 (x1) (x2) r15 u16 hX) (cwV 2 hg (qs_gV t_549 t_550 t_551 t_2 t_552) rfl rfl rfl (by decide +kernel) ⟨Nat.le_of_ble_eq_true rfl, Nat.le_of_ble_eq_true rfl⟩) ⟨qs_blind, va_recv hK hP (ci := 0) (q0 := 1) rfl rfl, fun U hU hW => ⟨rfl, by rw [hU], by rw [hU]; exact hP, va_K.moved hW.alike hK, hD.weaken (fun _ _ _ _ => trivial), hNs.warm hW⟩⟩ rfl rfl hl.1 rfl (lv_room (Nat.le_of_ble_eq_true rfl)) d_V_meetEntities_56 ⟨Nat.le_of_ble_eq_true rfl, Nat.le_of_ble_eq_true rfl⟩) rfl hP hD hS hA (fun H locs hP hD hS => ?_)
              refine lv_isub hx hb d_V_meetEntities_59 ?_
              refine lv_goto (tgt := 83) hx hb d_V_meetEntities_60 (by decide) ?_
              exact kb_83 _ ih u16 (x1) (x2) (x3) (x4) (r13 - r15) H locs ls hP hD hS (lv_sub hl [0, 1, 2, 3, 4] rfl) hF
  have hl := lv_entry ([.ref (h 5), .int a1, .int a2, .int a3] : List Value) (n := 6) (Nat.le_of_ble_eq_true rfl)
  rw [lg_entry_eq]
  generalize (lg_sl ([.ref (h 5), .int a1, .int a2, .int a3] : List Value) ++ List.replicate (6 - (lg_sl ([.ref (h 5), .int a1, .int a2, .int a3] : List Value)).length) Slot.unset).toArray = ls at hl ⊢
  have hl : lv_has ls 6 [(0, .ref (h 5)), (1, .int (a1)), (2, .int (a2)), (3, .int (a3))] := hl
  unfold f_V_meetEntities at hF
  obtain ⟨H, hHe⟩ : ∃ H, H = s.heap := ⟨_, rfl⟩
  obtain ⟨locs, hLe⟩ : ∃ L : List Loc, L = [] := ⟨_, rfl⟩
  rw [← hHe] at hP ⊢
  rw [← hLe]
  have hS : va_S A s.heap H locs := by rw [hHe, hLe]; exact hS
  refine lv_iconst (v := 0) hx hb d_V_meetEntities_0 (by decide) ?_
  refine lv_istore (lv' := [(4, .int (0)), (0, .ref (h 5)), (1, .int (a1)), (2, .int (a2)), (3, .int (a3))]) hx hb d_V_meetEntities_1 hl (by decide) rfl (fun ls hl => ?_)
  exact kb_3 200 g (a1) (a2) (a3) (0) H locs ls hP hD hS (lv_sub hl [1, 2, 3, 4, 0] rfl) hF
