theorem d_V_go_0 : decode b_V_go 0 = .ok (.aload_n 0, 1) := by decide +kernel
theorem d_V_go_1 : decode b_V_go 1 = .ok (.getfield 9, 3) := by decide +kernel
theorem d_V_go_4 : decode b_V_go 4 = .ok (.iload_n 1, 1) := by decide +kernel
theorem d_V_go_5 : decode b_V_go 5 = .ok (.iconst 2, 1) := by decide +kernel
theorem d_V_go_6 : decode b_V_go 6 = .ok (.iload_n 2, 1) := by decide +kernel
theorem d_V_go_7 : decode b_V_go 7 = .ok (.iadd, 1) := by decide +kernel
theorem d_V_go_8 : decode b_V_go 8 = .ok (.invokevirtual 29, 3) := by decide +kernel
theorem d_V_go_11 : decode b_V_go 11 = .ok (.istore_n 3, 1) := by decide +kernel
theorem d_V_go_12 : decode b_V_go 12 = .ok (.iload_n 3, 1) := by decide +kernel
theorem d_V_go_13 : decode b_V_go 13 = .ok (.bipush 8, 2) := by decide +kernel
theorem d_V_go_15 : decode b_V_go 15 = .ok (.invokestatic 68, 3) := by decide +kernel
theorem d_V_go_18 : decode b_V_go 18 = .ok (.istore 4, 2) := by decide +kernel
theorem d_V_go_20 : decode b_V_go 20 = .ok (.iload 4, 2) := by decide +kernel
theorem d_V_go_22 : decode b_V_go 22 = .ok (.ifCond .ne 6, 3) := by decide +kernel
theorem d_V_go_25 : decode b_V_go 25 = .ok (.bipush (-2), 2) := by decide +kernel
theorem d_V_go_27 : decode b_V_go 27 = .ok (.ireturn, 1) := by decide +kernel
theorem d_V_go_28 : decode b_V_go 28 = .ok (.aload_n 0, 1) := by decide +kernel
theorem d_V_go_29 : decode b_V_go 29 = .ok (.iload 4, 2) := by decide +kernel
theorem d_V_go_31 : decode b_V_go 31 = .ok (.invokestatic 73, 3) := by decide +kernel
theorem d_V_go_34 : decode b_V_go 34 = .ok (.putfield 77, 3) := by decide +kernel
theorem d_V_go_37 : decode b_V_go 37 = .ok (.aload_n 0, 1) := by decide +kernel
theorem d_V_go_38 : decode b_V_go 38 = .ok (.bipush (-2), 2) := by decide +kernel
theorem d_V_go_40 : decode b_V_go 40 = .ok (.putfield 80, 3) := by decide +kernel
theorem d_V_go_43 : decode b_V_go 43 = .ok (.aload_n 0, 1) := by decide +kernel
theorem d_V_go_44 : decode b_V_go 44 = .ok (.iload_n 1, 1) := by decide +kernel
theorem d_V_go_45 : decode b_V_go 45 = .ok (.iload_n 2, 1) := by decide +kernel
theorem d_V_go_46 : decode b_V_go 46 = .ok (.iload 4, 2) := by decide +kernel
theorem d_V_go_48 : decode b_V_go 48 = .ok (.ifCond .le 7, 3) := by decide +kernel
theorem d_V_go_51 : decode b_V_go 51 = .ok (.iconst 1, 1) := by decide +kernel
theorem d_V_go_52 : decode b_V_go 52 = .ok (.goto 4, 3) := by decide +kernel
theorem d_V_go_55 : decode b_V_go 55 = .ok (.iconst 0, 1) := by decide +kernel
theorem d_V_go_56 : decode b_V_go 56 = .ok (.invokevirtual 83, 3) := by decide +kernel
theorem d_V_go_59 : decode b_V_go 59 = .ok (.aload_n 0, 1) := by decide +kernel
theorem d_V_go_60 : decode b_V_go 60 = .ok (.iload_n 1, 1) := by decide +kernel
theorem d_V_go_61 : decode b_V_go 61 = .ok (.iload_n 2, 1) := by decide +kernel
theorem d_V_go_62 : decode b_V_go 62 = .ok (.iload 4, 2) := by decide +kernel
theorem d_V_go_64 : decode b_V_go 64 = .ok (.ifCond .le 7, 3) := by decide +kernel
theorem d_V_go_67 : decode b_V_go 67 = .ok (.iconst 1, 1) := by decide +kernel
theorem d_V_go_68 : decode b_V_go 68 = .ok (.goto 4, 3) := by decide +kernel
theorem d_V_go_71 : decode b_V_go 71 = .ok (.iconst 0, 1) := by decide +kernel
theorem d_V_go_72 : decode b_V_go 72 = .ok (.invokevirtual 87, 3) := by decide +kernel
theorem d_V_go_75 : decode b_V_go 75 = .ok (.aload_n 0, 1) := by decide +kernel
theorem d_V_go_76 : decode b_V_go 76 = .ok (.getfield 9, 3) := by decide +kernel
theorem d_V_go_79 : decode b_V_go 79 = .ok (.iload_n 1, 1) := by decide +kernel
theorem d_V_go_80 : decode b_V_go 80 = .ok (.iload_n 2, 1) := by decide +kernel
theorem d_V_go_81 : decode b_V_go 81 = .ok (.invokevirtual 29, 3) := by decide +kernel
theorem d_V_go_84 : decode b_V_go 84 = .ok (.iload 4, 2) := by decide +kernel
theorem d_V_go_86 : decode b_V_go 86 = .ok (.ifCond .le 10, 3) := by decide +kernel
theorem d_V_go_89 : decode b_V_go 89 = .ok (.aload_n 0, 1) := by decide +kernel
theorem d_V_go_90 : decode b_V_go 90 = .ok (.getfield 77, 3) := by decide +kernel
theorem d_V_go_93 : decode b_V_go 93 = .ok (.goto 8, 3) := by decide +kernel
theorem d_V_go_96 : decode b_V_go 96 = .ok (.aload_n 0, 1) := by decide +kernel
theorem d_V_go_97 : decode b_V_go 97 = .ok (.getfield 77, 3) := by decide +kernel
theorem d_V_go_100 : decode b_V_go 100 = .ok (.ineg, 1) := by decide +kernel
theorem d_V_go_101 : decode b_V_go 101 = .ok (.iadd, 1) := by decide +kernel
theorem d_V_go_102 : decode b_V_go 102 = .ok (.istore 5, 2) := by decide +kernel
theorem d_V_go_104 : decode b_V_go 104 = .ok (.aload_n 0, 1) := by decide +kernel
theorem d_V_go_105 : decode b_V_go 105 = .ok (.getfield 9, 3) := by decide +kernel
theorem d_V_go_108 : decode b_V_go 108 = .ok (.iload_n 1, 1) := by decide +kernel
theorem d_V_go_109 : decode b_V_go 109 = .ok (.iload_n 2, 1) := by decide +kernel
theorem d_V_go_110 : decode b_V_go 110 = .ok (.iload 5, 2) := by decide +kernel
theorem d_V_go_112 : decode b_V_go 112 = .ok (.i2l, 1) := by decide +kernel
theorem d_V_go_113 : decode b_V_go 113 = .ok (.invokestatic 32, 3) := by decide +kernel
theorem d_V_go_116 : decode b_V_go 116 = .ok (.invokevirtual 36, 3) := by decide +kernel
theorem d_V_go_119 : decode b_V_go 119 = .ok (.aload_n 0, 1) := by decide +kernel
theorem d_V_go_120 : decode b_V_go 120 = .ok (.getfield 80, 3) := by decide +kernel
theorem d_V_go_123 : decode b_V_go 123 = .ok (.bipush (-2), 2) := by decide +kernel
theorem d_V_go_125 : decode b_V_go 125 = .ok (.if_icmp .eq 54, 3) := by decide +kernel
theorem d_V_go_128 : decode b_V_go 128 = .ok (.aload_n 0, 1) := by decide +kernel
theorem d_V_go_129 : decode b_V_go 129 = .ok (.getfield 9, 3) := by decide +kernel
theorem d_V_go_132 : decode b_V_go 132 = .ok (.iload_n 1, 1) := by decide +kernel
theorem d_V_go_133 : decode b_V_go 133 = .ok (.bipush 6, 2) := by decide +kernel
theorem d_V_go_135 : decode b_V_go 135 = .ok (.invokevirtual 23, 3) := by decide +kernel
theorem d_V_go_138 : decode b_V_go 138 = .ok (.iconst 3, 1) := by decide +kernel
theorem d_V_go_139 : decode b_V_go 139 = .ok (.if_icmp .ne 7, 3) := by decide +kernel
theorem d_V_go_142 : decode b_V_go 142 = .ok (.iconst 1, 1) := by decide +kernel
theorem d_V_go_143 : decode b_V_go 143 = .ok (.goto 4, 3) := by decide +kernel
theorem d_V_go_146 : decode b_V_go 146 = .ok (.iconst 0, 1) := by decide +kernel
theorem d_V_go_147 : decode b_V_go 147 = .ok (.istore 6, 2) := by decide +kernel
theorem d_V_go_149 : decode b_V_go 149 = .ok (.aload_n 0, 1) := by decide +kernel
theorem d_V_go_150 : decode b_V_go 150 = .ok (.getfield 9, 3) := by decide +kernel
theorem d_V_go_153 : decode b_V_go 153 = .ok (.iload_n 1, 1) := by decide +kernel
theorem d_V_go_154 : decode b_V_go 154 = .ok (.iconst 2, 1) := by decide +kernel
theorem d_V_go_155 : decode b_V_go 155 = .ok (.iload_n 2, 1) := by decide +kernel
theorem d_V_go_156 : decode b_V_go 156 = .ok (.iadd, 1) := by decide +kernel
theorem d_V_go_157 : decode b_V_go 157 = .ok (.iload 6, 2) := by decide +kernel
theorem d_V_go_159 : decode b_V_go 159 = .ok (.ifCond .eq 16, 3) := by decide +kernel
theorem d_V_go_162 : decode b_V_go 162 = .ok (.iload_n 3, 1) := by decide +kernel
theorem d_V_go_163 : decode b_V_go 163 = .ok (.ineg, 1) := by decide +kernel
theorem d_V_go_164 : decode b_V_go 164 = .ok (.iconst 2, 1) := by decide +kernel
theorem d_V_go_165 : decode b_V_go 165 = .ok (.invokestatic 68, 3) := by decide +kernel
theorem d_V_go_168 : decode b_V_go 168 = .ok (.i2l, 1) := by decide +kernel
theorem d_V_go_169 : decode b_V_go 169 = .ok (.invokestatic 32, 3) := by decide +kernel
theorem d_V_go_172 : decode b_V_go 172 = .ok (.goto 4, 3) := by decide +kernel
theorem d_V_go_175 : decode b_V_go 175 = .ok (.iconst 0, 1) := by decide +kernel
theorem d_V_go_176 : decode b_V_go 176 = .ok (.invokevirtual 36, 3) := by decide +kernel
theorem d_V_go_179 : decode b_V_go 179 = .ok (.aload_n 0, 1) := by decide +kernel
theorem d_V_go_180 : decode b_V_go 180 = .ok (.getfield 80, 3) := by decide +kernel
theorem d_V_go_183 : decode b_V_go 183 = .ok (.ireturn, 1) := by decide +kernel
def f_V_go_176  (g : Sg) (y1 : Int32) (y2 : Int32) (y3 : Int32) : Option (Int32 × Sg) := (qs_bn (f_E_put g (y1) (y2) (y3)) fun _ u27 => (some (u27 29 0, u27)))
def f_V_go_147  (g : Sg) (x1 : Int32) (x2 : Int32) (x3 : Int32) (y0 : Int32) : Option (Int32 × Sg) := (if y0 = 0 then (f_V_go_176 g (x1) (2 + x2) (0)) else (qs_pb (f_J_floorDiv_III (-x3) (2)) fun r24 => (qs_pb (f_Q_inRange (r24.toInt64)) fun r25 => (f_V_go_176 g (x1) (2 + x2) (r25)))))
def f_V_go_101  (g : Sg) (x1 : Int32) (x2 : Int32) (x3 : Int32) (y0 : Int32) (y1 : Int32) : Option (Int32 × Sg) := (qs_pb (f_Q_inRange ((y0 + y1).toInt64)) fun r16 => (qs_bn (f_E_put g (x1) (x2) (r16)) fun _ u18 => (if (u18 29 0) = (-2) then (some (u18 29 0, u18)) else (qs_bn (f_E_wholeField u18 (x1) (6)) fun r20 u21 => (if r20 = 3 then (f_V_go_147 u21 (x1) (x2) (x3) (1)) else (f_V_go_147 u21 (x1) (x2) (x3) (0)))))))
def f_V_go_72  (g : Sg) (x1 : Int32) (x2 : Int32) (x3 : Int32) (x4 : Int32) (y1 : Int32) (y2 : Int32) (y3 : Int32) : Option (Int32 × Sg) := (qs_bn (f_V_meetEntities g (y1) (y2) (y3)) fun _ u12 => (qs_bn (f_E_field u12 (x1) (x2)) fun r13 u14 => (if x4 ≤ 0 then (f_V_go_101 u14 (x1) (x2) (x3) (r13) (-(u14 28 0))) else (f_V_go_101 u14 (x1) (x2) (x3) (r13) (u14 28 0)))))
def f_V_go_56  (g : Sg) (x1 : Int32) (x2 : Int32) (x3 : Int32) (x4 : Int32) (y1 : Int32) (y2 : Int32) (y3 : Int32) : Option (Int32 × Sg) := (qs_bn (f_V_meetWalls g (y1) (y2) (y3)) fun _ u9 => (if x4 ≤ 0 then (f_V_go_72 u9 (x1) (x2) (x3) (x4) (x1) (x2) (0)) else (f_V_go_72 u9 (x1) (x2) (x3) (x4) (x1) (x2) (1))))
def f_V_go (g : Sg) (a1 : Int32) (a2 : Int32) : Option (Int32 × Sg) := (qs_bn (f_E_field g (a1) (2 + a2)) fun r1 u2 => (qs_pb (f_J_floorDiv_III (r1) (8)) fun r3 => (if r3 = 0 then (some ((-2), u2)) else (qs_st (qs_i u2 28 (if 0 ≤ r3 then r3 else 0 - r3)) fun u5 => (qs_st (qs_i u5 29 ((-2))) fun u6 => (if r3 ≤ 0 then (f_V_go_56 u6 (a1) (a2) (r1) (r3) (a1) (a2) (0)) else (f_V_go_56 u6 (a1) (a2) (r1) (r3) (a1) (a2) (1))))))))
set_option maxHeartbeats 4000000 in
set_option maxRecDepth 100000 in
theorem c_V_go (l : Launch) (dC : Nat → ClassId) (dI : Nat → Nat → Nat) (h : Nat → Nat) (c : Nat → ClassId) (sz : Nat) (g : Sg) (a1 : Int32) (a2 : Int32) (r0 : Int32) (u0 : Sg) (hF : f_V_go g a1 a2 = some (r0, u0)) : Met l y_V_go (qs_ws y_V_go b_V_go 7 (some .int)) ({ frames := 4, cells := 0, slots := 0, locals := 94 } : Room) (va_Pc ([.ref (h 5), .int a1, .int a2] : List Value) (fun U => U.heap.size = sz ∧ va_P (dC, dI) vwCl (qs_W h c g) U.heap ∧ va_K (dC, dI) vwCl (qs_T c) U ∧ va_D (fun _ => True) (qs_W h c g) ∧ qs_N U)) (va_Qi (fun (r : Int32) (u : Sg) => r = r0 ∧ u = u0) (qs_at dC dI h c (va_A (qs_W h c g) sz)) (va_A (qs_W h c g) sz)) 0 0 (va_A (qs_W h c g) sz) := by
  refine Met.ofW (cc := b_V_go) (maxL := 7) (ret := (some .int)) (by decide +kernel) rfl ?_
  intro p e s m args below meth cd s₁ B hml hv
  obtain ⟨rfl, hsz, hP, hK, hD0, hNs⟩ := hv
  have hx := B.exec
  have hb := B.bytes
  have hr := B.returns
  have hts := atoms_spec (ws := (qs_ws y_V_go b_V_go 7 (some .int))) B.pre
  have hg : ∀ w ∈ qs_gt, w.before _ s = true := fun w h => hts w (List.mem_cons_of_mem _ h)
  have hown : s.vm.findClass R_V = some m.cls := findClass_of_methodNamed B.named
  have hlocks := B.notSynchronized
  subst hsz
  have hD := hD0.self (sz := s.heap.size)
  generalize hAe : va_A (qs_W h c g) s.heap.size = A at hD ⊢
  have hA : ∀ q : Nat, s.heap.size ≤ q → A q := fun q h => by rw [← hAe]; exact Or.inr h
  have hS : va_S A s.heap s.heap [] := va_S.rf
  have kb_176 : ∀ (g : Sg) (y1 : Int32) (y2 : Int32) (y3 : Int32) (H : Heap) (locs : List Loc) (ls : Array Slot), va_P (dC, dI) vwCl (qs_W h c g) H → va_D A (qs_W h c g) → va_S A s.heap H locs → lv_has ls 7 [(0, .ref (h 5))] → f_V_go_176  g y1 y2 y3 = some (r0, u0) → W p l e (headSpec (qs_ws y_V_go b_V_go 7 (some .int)) ({ frames := 4, cells := 0, slots := 0, locals := 94 } : Room)).room s m ([.ref (h 5), .int a1, .int a2] : List Value).toArray below meth cd H locs 0 0 (MQ below (va_Qi (fun (r : Int32) (u : Sg) => r = r0 ∧ u = u0) (qs_at dC dI h c A) A) ([.ref (h 5), .int a1, .int a2] : List Value).toArray s 0 0 A) (F0 m 176 ls [.int (y3), .int (y2), .int (y1), .ref (h 1)]) := by
    intro g y1 y2 y3 H locs ls hP hD hS hl hF
    unfold f_V_go_176 at hF
    obtain ⟨r26, u27, hX, hF⟩ := qs_bn_some hF
    refine qs_cv (Wd := qs_W h c) (isC := [0, 1, 2, 3, 4, 5, 6, 7, 8, 9, 10, 11, 12, 13, 14, 15, 16]) (va_runV (own := "QuakeServer$Mover") (C := "QuakeServer$Entities") (As := [.int (y1), .int (y2), .int (y3)]) (rest := []) ⟨hx, hb, hml, hown, hg⟩ (c_E_put l dC dI h c H.size g (y1) (y2) (y3)  u27 hX) (cwV 3 hg (qs_gV t_516 t_355 t_356 t_2 t_357) rfl rfl rfl (by decide +kernel) ⟨Nat.le_of_ble_eq_true rfl, Nat.le_of_ble_eq_true rfl⟩) ⟨qs_blind, va_recv hK hP (ci := 0) (q0 := 1) rfl rfl, fun U hU hW => ⟨rfl, by rw [hU], by rw [hU]; exact hP, va_K.moved hW.alike hK, hD.weaken (fun _ _ _ _ => trivial), hNs.warm hW⟩⟩ rfl rfl hl.1 rfl (lv_room (Nat.le_of_ble_eq_true rfl)) d_V_go_176 ⟨Nat.le_of_ble_eq_true rfl, Nat.le_of_ble_eq_true rfl⟩) rfl hP hD hS hA (fun H locs hP hD hS => ?_)
    refine lv_aload_n hx hb d_V_go_179 rfl (lv_at hl 0 rfl) ?_
    refine va_get (D := (dC, dI)) (ci := 4) (v := .int (u27 29 0)) (C := R_V) (T := T_V) (N := 6) hx hb hg in_V hown hK hP 5 rfl rfl 5 (by decide) (hg _ t_129) (fun _ h9 => h9) rfl d_V_go_180 ?_
    obtain ⟨h8, h9⟩ := qs_ret hF
    exact W.iret (v := u27 29 0) hx hb hr (fun t ht hW => ⟨⟨(u27 29 0), u27, rfl, ⟨h8, h9⟩, by rw [ht]; exact hP, va_K.moved hW.alike hK, hD⟩, hS.F ht⟩) hS.2.2 d_V_go_183
  have kb_147 : ∀ (g : Sg) (x1 : Int32) (x2 : Int32) (x3 : Int32) (y0 : Int32) (H : Heap) (locs : List Loc) (ls : Array Slot), va_P (dC, dI) vwCl (qs_W h c g) H → va_D A (qs_W h c g) → va_S A s.heap H locs → lv_has ls 7 [(0, .ref (h 5)), (1, .int (x1)), (2, .int (x2)), (3, .int (x3))] → f_V_go_147  g x1 x2 x3 y0 = some (r0, u0) → W p l e (headSpec (qs_ws y_V_go b_V_go 7 (some .int)) ({ frames := 4, cells := 0, slots := 0, locals := 94 } : Room)).room s m ([.ref (h 5), .int a1, .int a2] : List Value).toArray below meth cd H locs 0 0 (MQ below (va_Qi (fun (r : Int32) (u : Sg) => r = r0 ∧ u = u0) (qs_at dC dI h c A) A) ([.ref (h 5), .int a1, .int a2] : List Value).toArray s 0 0 A) (F0 m 147 ls [.int (y0)]) := by
    intro g x1 x2 x3 y0 H locs ls hP hD hS hl hF
    unfold f_V_go_147 at hF
    refine lv_istore (lv' := [(6, .int (y0)), (0, .ref (h 5)), (1, .int (x1)), (2, .int (x2)), (3, .int (x3))]) hx hb d_V_go_147 hl (by decide) rfl (fun ls hl => ?_)
    refine lv_aload_n hx hb d_V_go_149 rfl (lv_at hl 1 rfl) ?_
    refine va_get (D := (dC, dI)) (ci := 4) (v := .ref (h 1)) (C := R_V) (T := T_V) (N := 6) hx hb hg in_V hown hK hP 5 rfl rfl 0 (by decide) (hg _ t_123) (fun _ h9 => h9) rfl d_V_go_150 ?_
    refine lv_iload_n hx hb d_V_go_153 rfl (lv_at hl 2 rfl) ?_
    refine lv_iconst (v := 2) hx hb d_V_go_154 (by decide) ?_
    refine lv_iload_n hx hb d_V_go_155 rfl (lv_at hl 3 rfl) ?_
    refine lv_iadd hx hb d_V_go_156 ?_
    refine lv_iload hx hb d_V_go_157 (lv_at hl 0 rfl) ?_
    refine lv_if_eq (tgt := 175) hx hb d_V_go_159 (by decide) (fun c23 => ?_) (fun c23 => ?_)
    · have hF := qs_pos c23 hF
      refine lv_iconst (v := 0) hx hb d_V_go_175 (by decide) ?_
      exact kb_176 g (x1) (2 + x2) (0) H locs ls hP hD hS (lv_sub hl [1] rfl) hF
    · have hF := qs_neg c23 hF
      refine lv_iload_n hx hb d_V_go_162 rfl (lv_at hl 4 rfl) ?_
      refine lv_ineg hx hb d_V_go_163 ?_
      refine lv_iconst (v := 2) hx hb d_V_go_164 (by decide) ?_
      obtain ⟨r24, hX, hF⟩ := qs_pb_some hF
      refine qs_psi (va_runS (own := "QuakeServer$Mover") (As := [.int (-x3), .int (2)]) (rest := [.int (2 + x2), .int (x1), .ref (h 1)]) ⟨hx, hb, hml, hown, hg⟩ (c_J_floorDiv_III l H.size (-x3) (2) r24 hX) (va_cwS 2 hg (qs_gS t_525 t_526 t_15 t_527) rfl rfl rfl (by decide +kernel) ⟨Nat.le_of_ble_eq_true rfl, Nat.le_of_ble_eq_true rfl⟩) ⟨qs_blind0, fun U hU hW => ⟨rfl, by rw [hU], hNs.warm hW⟩⟩ rfl rfl hl.1 rfl (lv_room (Nat.le_of_ble_eq_true rfl)) d_V_go_165 ⟨Nat.le_of_ble_eq_true rfl, Nat.le_of_ble_eq_true rfl⟩) hP hD hS hA (fun H locs hP hS => ?_)
      refine lv_i2l (v := r24.toInt64) hx hb d_V_go_168 rfl ?_
      obtain ⟨r25, hX, hF⟩ := qs_pb_some hF
      refine qs_psi (va_runSN (own := "QuakeServer$Mover") (As := [.long (r24.toInt64)]) (rest := [.int (2 + x2), .int (x1), .ref (h 1)]) ⟨hx, hb, hml, hown, hg⟩ (c_Q_inRange l H.size (r24.toInt64) r25 hX) ⟨va_cnB (own := "QuakeServer$Mover") (index := 32) (host := "QuakeServer") 1 hg (qs_gc t_471) rfl rfl rfl (nM_8 hNs) (hg _ t_1) (by decide +kernel) ⟨Nat.le_of_ble_eq_true rfl, Nat.le_of_ble_eq_true rfl⟩, hg _ t_470, trivial⟩ ⟨qs_blind0, fun U hU hW => ⟨rfl, by rw [hU], hNs.warm hW⟩⟩ rfl rfl hl.1 rfl (lv_room (Nat.le_of_ble_eq_true rfl)) d_V_go_169 ⟨Nat.le_of_ble_eq_true rfl, Nat.le_of_ble_eq_true rfl⟩) hP hD hS hA (fun H locs hP hS => ?_)
      refine lv_goto (tgt := 176) hx hb d_V_go_172 (by decide) ?_
      exact kb_176 g (x1) (2 + x2) (r25) H locs ls hP hD hS (lv_sub hl [1] rfl) hF
  have kb_101 : ∀ (g : Sg) (x1 : Int32) (x2 : Int32) (x3 : Int32) (y0 : Int32) (y1 : Int32) (H : Heap) (locs : List Loc) (ls : Array Slot), va_P (dC, dI) vwCl (qs_W h c g) H → va_D A (qs_W h c g) → va_S A s.heap H locs → lv_has ls 7 [(0, .ref (h 5)), (1, .int (x1)), (2, .int (x2)), (3, .int (x3))] → f_V_go_101  g x1 x2 x3 y0 y1 = some (r0, u0) → W p l e (headSpec (qs_ws y_V_go b_V_go 7 (some .int)) ({ frames := 4, cells := 0, slots := 0, locals := 94 } : Room)).room s m ([.ref (h 5), .int a1, .int a2] : List Value).toArray below meth cd H locs 0 0 (MQ below (va_Qi (fun (r : Int32) (u : Sg) => r = r0 ∧ u = u0) (qs_at dC dI h c A) A) ([.ref (h 5), .int a1, .int a2] : List Value).toArray s 0 0 A) (F0 m 101 ls [.int (y1), .int (y0)]) := by
    intro g x1 x2 x3 y0 y1 H locs ls hP hD hS hl hF
    unfold f_V_go_101 at hF
    refine lv_iadd hx hb d_V_go_101 ?_
    refine lv_istore (lv' := [(5, .int (y0 + y1)), (0, .ref (h 5)), (1, .int (x1)), (2, .int (x2)), (3, .int (x3))]) hx hb d_V_go_102 hl (by decide) rfl (fun ls hl => ?_)
    refine lv_aload_n hx hb d_V_go_104 rfl (lv_at hl 1 rfl) ?_
    refine va_get (D := (dC, dI)) (ci := 4) (v := .ref (h 1)) (C := R_V) (T := T_V) (N := 6) hx hb hg in_V hown hK hP 5 rfl rfl 0 (by decide) (hg _ t_123) (fun _ h9 => h9) rfl d_V_go_105 ?_
    refine lv_iload_n hx hb d_V_go_108 rfl (lv_at hl 2 rfl) ?_
    refine lv_iload_n hx hb d_V_go_109 rfl (lv_at hl 3 rfl) ?_
    refine lv_iload hx hb d_V_go_110 (lv_at hl 0 rfl) ?_
    refine lv_i2l (v := (y0 + y1).toInt64) hx hb d_V_go_112 rfl ?_
    obtain ⟨r16, hX, hF⟩ := qs_pb_some hF
    refine qs_psi (va_runSN (own := "QuakeServer$Mover") (As := [.long ((y0 + y1).toInt64)]) (rest := [.int (x2), .int (x1), .ref (h 1)]) ⟨hx, hb, hml, hown, hg⟩ (c_Q_inRange l H.size ((y0 + y1).toInt64) r16 hX) ⟨va_cnB (own := "QuakeServer$Mover") (index := 32) (host := "QuakeServer") 1 hg (qs_gc t_471) rfl rfl rfl (nM_8 hNs) (hg _ t_1) (by decide +kernel) ⟨Nat.le_of_ble_eq_true rfl, Nat.le_of_ble_eq_true rfl⟩, hg _ t_470, trivial⟩ ⟨qs_blind0, fun U hU hW => ⟨rfl, by rw [hU], hNs.warm hW⟩⟩ rfl rfl hl.1 rfl (lv_room (Nat.le_of_ble_eq_true rfl)) d_V_go_113 ⟨Nat.le_of_ble_eq_true rfl, Nat.le_of_ble_eq_true rfl⟩) hP hD hS hA (fun H locs hP hS => ?_)
    obtain ⟨r17, u18, hX, hF⟩ := qs_bn_some hF
    refine qs_cv (Wd := qs_W h c) (isC := [0, 1, 2, 3, 4, 5, 6, 7, 8, 9, 10, 11, 12, 13, 14, 15, 16]) (va_runV (own := "QuakeServer$Mover") (C := "QuakeServer$Entities") (As := [.int (x1), .int (x2), .int (r16)]) (rest := []) ⟨hx, hb, hml, hown, hg⟩ (c_E_put l dC dI h c H.size g (x1) (x2) (r16)  u18 hX) (cwV 3 hg (qs_gV t_516 t_355 t_356 t_2 t_357) rfl rfl rfl (by decide +kernel) ⟨Nat.le_of_ble_eq_true rfl, Nat.le_of_ble_eq_true rfl⟩) ⟨qs_blind, va_recv hK hP (ci := 0) (q0 := 1) rfl rfl, fun U hU hW => ⟨rfl, by rw [hU], by rw [hU]; exact hP, va_K.moved hW.alike hK, hD.weaken (fun _ _ _ _ => trivial), hNs.warm hW⟩⟩ rfl rfl hl.1 rfl (lv_room (Nat.le_of_ble_eq_true rfl)) d_V_go_116 ⟨Nat.le_of_ble_eq_true rfl, Nat.le_of_ble_eq_true rfl⟩) rfl hP hD hS hA (fun H locs hP hD hS => ?_)
    refine lv_aload_n hx hb d_V_go_119 rfl (lv_at hl 1 rfl) ?_
    refine va_get (D := (dC, dI)) (ci := 4) (v := .int (u18 29 0)) (C := R_V) (T := T_V) (N := 6) hx hb hg in_V hown hK hP 5 rfl rfl 5 (by decide) (hg _ t_129) (fun _ h9 => h9) rfl d_V_go_120 ?_
    refine lv_bipush (v := (-2)) hx hb d_V_go_123 (by decide) ?_
    refine lv_icmp_eq (tgt := 179) hx hb d_V_go_125 (by decide) (fun c19 => ?_) (fun c19 => ?_)
    · have hF := qs_pos c19 hF
      refine lv_aload_n hx hb d_V_go_179 rfl (lv_at hl 1 rfl) ?_
      refine va_get (D := (dC, dI)) (ci := 4) (v := .int (u18 29 0)) (C := R_V) (T := T_V) (N := 6) hx hb hg in_V hown hK hP 5 rfl rfl 5 (by decide) (hg _ t_129) (fun _ h9 => h9) rfl d_V_go_180 ?_
      obtain ⟨h8, h9⟩ := qs_ret hF
      exact W.iret (v := u18 29 0) hx hb hr (fun t ht hW => ⟨⟨(u18 29 0), u18, rfl, ⟨h8, h9⟩, by rw [ht]; exact hP, va_K.moved hW.alike hK, hD⟩, hS.F ht⟩) hS.2.2 d_V_go_183
    · have hF := qs_neg c19 hF
      refine lv_aload_n hx hb d_V_go_128 rfl (lv_at hl 1 rfl) ?_
      refine va_get (D := (dC, dI)) (ci := 4) (v := .ref (h 1)) (C := R_V) (T := T_V) (N := 6) hx hb hg in_V hown hK hP 5 rfl rfl 0 (by decide) (hg _ t_123) (fun _ h9 => h9) rfl d_V_go_129 ?_
      refine lv_iload_n hx hb d_V_go_132 rfl (lv_at hl 2 rfl) ?_
      refine lv_bipush (v := 6) hx hb d_V_go_133 (by decide) ?_
      obtain ⟨r20, u21, hX, hF⟩ := qs_bn_some hF
      refine qs_ci (Wd := qs_W h c) (isC := [0, 1, 2, 3, 4, 5, 6, 7, 8, 9, 10, 11, 12, 13, 14, 15, 16]) (va_runV (own := "QuakeServer$Mover") (C := "QuakeServer$Entities") (As := [.int (x1), .int (6)]) (rest := []) ⟨hx, hb, hml, hown, hg⟩ (c_E_wholeField l dC dI h c H.size u18 (x1) (6) r20 u21 hX) (cwV 2 hg (qs_gV t_508 t_509 t_510 t_2 t_511) rfl rfl rfl (by decide +kernel) ⟨Nat.le_of_ble_eq_true rfl, Nat.le_of_ble_eq_true rfl⟩) ⟨qs_blind, va_recv hK hP (ci := 0) (q0 := 1) rfl rfl, fun U hU hW => ⟨rfl, by rw [hU], by rw [hU]; exact hP, va_K.moved hW.alike hK, hD.weaken (fun _ _ _ _ => trivial), hNs.warm hW⟩⟩ rfl rfl hl.1 rfl (lv_room (Nat.le_of_ble_eq_true rfl)) d_V_go_135 ⟨Nat.le_of_ble_eq_true rfl, Nat.le_of_ble_eq_true rfl⟩) rfl hP hD hS hA (fun H locs hP hD hS => ?_)
      refine lv_iconst (v := 3) hx hb d_V_go_138 (by decide) ?_
      refine lv_icmp_ne (tgt := 146) hx hb d_V_go_139 (by decide) (fun c22 => ?_) (fun c22 => ?_)
      · have hF := qs_neg c22 hF
        refine lv_iconst (v := 0) hx hb d_V_go_146 (by decide) ?_
        exact kb_147 u21 (x1) (x2) (x3) (0) H locs ls hP hD hS (lv_sub hl [1, 2, 3, 4] rfl) hF
      · have hF := qs_pos c22 hF
        refine lv_iconst (v := 1) hx hb d_V_go_142 (by decide) ?_
        refine lv_goto (tgt := 147) hx hb d_V_go_143 (by decide) ?_
        exact kb_147 u21 (x1) (x2) (x3) (1) H locs ls hP hD hS (lv_sub hl [1, 2, 3, 4] rfl) hF
  have kb_72 : ∀ (g : Sg) (x1 : Int32) (x2 : Int32) (x3 : Int32) (x4 : Int32) (y1 : Int32) (y2 : Int32) (y3 : Int32) (H : Heap) (locs : List Loc) (ls : Array Slot), va_P (dC, dI) vwCl (qs_W h c g) H → va_D A (qs_W h c g) → va_S A s.heap H locs → lv_has ls 7 [(0, .ref (h 5)), (1, .int (x1)), (2, .int (x2)), (3, .int (x3)), (4, .int (x4))] → f_V_go_72  g x1 x2 x3 x4 y1 y2 y3 = some (r0, u0) → W p l e (headSpec (qs_ws y_V_go b_V_go 7 (some .int)) ({ frames := 4, cells := 0, slots := 0, locals := 94 } : Room)).room s m ([.ref (h 5), .int a1, .int a2] : List Value).toArray below meth cd H locs 0 0 (MQ below (va_Qi (fun (r : Int32) (u : Sg) => r = r0 ∧ u = u0) (qs_at dC dI h c A) A) ([.ref (h 5), .int a1, .int a2] : List Value).toArray s 0 0 A) (F0 m 72 ls [.int (y3), .int (y2), .int (y1), .ref (h 5)]) := by
    intro g x1 x2 x3 x4 y1 y2 y3 H locs ls hP hD hS hl hF
    unfold f_V_go_72 at hF
    obtain ⟨r11, u12, hX, hF⟩ := qs_bn_some hF
    refine qs_cv (Wd := qs_W h c) (isC := [0, 1, 2, 3, 4, 5, 6, 7, 8, 9, 10, 11, 12, 13, 14, 15, 16]) (va_runV (own := "QuakeServer$Mover") (C := "QuakeServer$Mover") (As := [.int (y1), .int (y2), .int (y3)]) (rest := []) ⟨hx, hb, hml, hown, hg⟩ (c_V_meetEntities l dC dI h c H.size g (y1) (y2) (y3)  u12 hX) (cwV 3 hg (qs_gV t_565 t_567 tp_13 t_6 t_568) rfl rfl rfl (by decide +kernel) ⟨Nat.le_of_ble_eq_true rfl, Nat.le_of_ble_eq_true rfl⟩) ⟨qs_blind, va_recv hK hP (ci := 4) (q0 := 5) rfl rfl, fun U hU hW => ⟨rfl, by rw [hU], by rw [hU]; exact hP, va_K.moved hW.alike hK, hD.weaken (fun _ _ _ _ => trivial), hNs.warm hW⟩⟩ rfl rfl hl.1 rfl (lv_room (Nat.le_of_ble_eq_true rfl)) d_V_go_72 ⟨Nat.le_of_ble_eq_true rfl, Nat.le_of_ble_eq_true rfl⟩) rfl hP hD hS hA (fun H locs hP hD hS => ?_)
    refine lv_aload_n hx hb d_V_go_75 rfl (lv_at hl 0 rfl) ?_
    refine va_get (D := (dC, dI)) (ci := 4) (v := .ref (h 1)) (C := R_V) (T := T_V) (N := 6) hx hb hg in_V hown hK hP 5 rfl rfl 0 (by decide) (hg _ t_123) (fun _ h9 => h9) rfl d_V_go_76 ?_
    refine lv_iload_n hx hb d_V_go_79 rfl (lv_at hl 1 rfl) ?_
    refine lv_iload_n hx hb d_V_go_80 rfl (lv_at hl 2 rfl) ?_
    obtain ⟨r13, u14, hX, hF⟩ := qs_bn_some hF
    refine qs_ci (Wd := qs_W h c) (isC := [0, 1, 2, 3, 4, 5, 6, 7, 8, 9, 10, 11, 12, 13, 14, 15, 16]) (va_runV (own := "QuakeServer$Mover") (C := "QuakeServer$Entities") (As := [.int (x1), .int (x2)]) (rest := []) ⟨hx, hb, hml, hown, hg⟩ (c_E_field l dC dI h c H.size u12 (x1) (x2) r13 u14 hX) (cwV 2 hg (qs_gV t_514 t_192 t_193 t_2 t_194) rfl rfl rfl (by decide +kernel) ⟨Nat.le_of_ble_eq_true rfl, Nat.le_of_ble_eq_true rfl⟩) ⟨qs_blind, va_recv hK hP (ci := 0) (q0 := 1) rfl rfl, fun U hU hW => ⟨rfl, by rw [hU], by rw [hU]; exact hP, va_K.moved hW.alike hK, hD.weaken (fun _ _ _ _ => trivial), hNs.warm hW⟩⟩ rfl rfl hl.1 rfl (lv_room (Nat.le_of_ble_eq_true rfl)) d_V_go_81 ⟨Nat.le_of_ble_eq_true rfl, Nat.le_of_ble_eq_true rfl⟩) rfl hP hD hS hA (fun H locs hP hD hS => ?_)
    refine lv_iload hx hb d_V_go_84 (lv_at hl 4 rfl) ?_
    refine lv_if_le (tgt := 96) hx hb d_V_go_86 (by decide) (fun c15 => ?_) (fun c15 => ?_)
    · have hF := qs_pos c15 hF
      refine lv_aload_n hx hb d_V_go_96 rfl (lv_at hl 0 rfl) ?_
      refine va_get (D := (dC, dI)) (ci := 4) (v := .int (u14 28 0)) (C := R_V) (T := T_V) (N := 6) hx hb hg in_V hown hK hP 5 rfl rfl 4 (by decide) (hg _ t_128) (fun _ h9 => h9) rfl d_V_go_97 ?_
      refine lv_ineg hx hb d_V_go_100 ?_
      exact kb_101 u14 (x1) (x2) (x3) (r13) (-(u14 28 0)) H locs ls hP hD hS (lv_sub hl [0, 1, 2, 3] rfl) hF
    · have hF := qs_neg c15 hF
      refine lv_aload_n hx hb d_V_go_89 rfl (lv_at hl 0 rfl) ?_
      refine va_get (D := (dC, dI)) (ci := 4) (v := .int (u14 28 0)) (C := R_V) (T := T_V) (N := 6) hx hb hg in_V hown hK hP 5 rfl rfl 4 (by decide) (hg _ t_128) (fun _ h9 => h9) rfl d_V_go_90 ?_
      refine lv_goto (tgt := 101) hx hb d_V_go_93 (by decide) ?_
      exact kb_101 u14 (x1) (x2) (x3) (r13) (u14 28 0) H locs ls hP hD hS (lv_sub hl [0, 1, 2, 3] rfl) hF
  have kb_56 : ∀ (g : Sg) (x1 : Int32) (x2 : Int32) (x3 : Int32) (x4 : Int32) (y1 : Int32) (y2 : Int32) (y3 : Int32) (H : Heap) (locs : List Loc) (ls : Array Slot), va_P (dC, dI) vwCl (qs_W h c g) H → va_D A (qs_W h c g) → va_S A s.heap H locs → lv_has ls 7 [(0, .ref (h 5)), (1, .int (x1)), (2, .int (x2)), (3, .int (x3)), (4, .int (x4))] → f_V_go_56  g x1 x2 x3 x4 y1 y2 y3 = some (r0, u0) → W p l e (headSpec (qs_ws y_V_go b_V_go 7 (some .int)) ({ frames := 4, cells := 0, slots := 0, locals := 94 } : Room)).room s m ([.ref (h 5), .int a1, .int a2] : List Value).toArray below meth cd H locs 0 0 (MQ below (va_Qi (fun (r : Int32) (u : Sg) => r = r0 ∧ u = u0) (qs_at dC dI h c A) A) ([.ref (h 5), .int a1, .int a2] : List Value).toArray s 0 0 A) (F0 m 56 ls [.int (y3), .int (y2), .int (y1), .ref (h 5)]) := by
    intro g x1 x2 x3 x4 y1 y2 y3 H locs ls hP hD hS hl hF
    unfold f_V_go_56 at hF
    obtain ⟨r8, u9, hX, hF⟩ := qs_bn_some hF
    refine qs_cv (Wd := qs_W h c) (isC := [0, 1, 2, 3, 4, 5, 6, 7, 8, 9, 10, 11, 12, 13, 14, 15, 16]) (va_runV (own := "QuakeServer$Mover") (C := "QuakeServer$Mover") (As := [.int (y1), .int (y2), .int (y3)]) (rest := []) ⟨hx, hb, hml, hown, hg⟩ (c_V_meetWalls l dC dI h c H.size g (y1) (y2) (y3)  u9 hX) (cwV 3 hg (qs_gV t_531 t_533 tp_10 t_6 t_534) rfl rfl rfl (by decide +kernel) ⟨Nat.le_of_ble_eq_true rfl, Nat.le_of_ble_eq_true rfl⟩) ⟨qs_blind, va_recv hK hP (ci := 4) (q0 := 5) rfl rfl, fun U hU hW => ⟨rfl, by rw [hU], by rw [hU]; exact hP, va_K.moved hW.alike hK, hD.weaken (fun _ _ _ _ => trivial), hNs.warm hW⟩⟩ rfl rfl hl.1 rfl (lv_room (Nat.le_of_ble_eq_true rfl)) d_V_go_56 ⟨Nat.le_of_ble_eq_true rfl, Nat.le_of_ble_eq_true rfl⟩) rfl hP hD hS hA (fun H locs hP hD hS => ?_)
    refine lv_aload_n hx hb d_V_go_59 rfl (lv_at hl 0 rfl) ?_
    refine lv_iload_n hx hb d_V_go_60 rfl (lv_at hl 1 rfl) ?_
    refine lv_iload_n hx hb d_V_go_61 rfl (lv_at hl 2 rfl) ?_
    refine lv_iload hx hb d_V_go_62 (lv_at hl 4 rfl) ?_
    refine lv_if_le (tgt := 71) hx hb d_V_go_64 (by decide) (fun c10 => ?_) (fun c10 => ?_)
    · have hF := qs_pos c10 hF
      refine lv_iconst (v := 0) hx hb d_V_go_71 (by decide) ?_
      exact kb_72 u9 (x1) (x2) (x3) (x4) (x1) (x2) (0) H locs ls hP hD hS (lv_sub hl [0, 1, 2, 3, 4] rfl) hF
    · have hF := qs_neg c10 hF
      refine lv_iconst (v := 1) hx hb d_V_go_67 (by decide) ?_
      refine lv_goto (tgt := 72) hx hb d_V_go_68 (by decide) ?_
      exact kb_72 u9 (x1) (x2) (x3) (x4) (x1) (x2) (1) H locs ls hP hD hS (lv_sub hl [0, 1, 2, 3, 4] rfl) hF
  have hl := lv_entry ([.ref (h 5), .int a1, .int a2] : List Value) (n := 7) (Nat.le_of_ble_eq_true rfl)
  rw [lg_entry_eq]
  generalize (lg_sl ([.ref (h 5), .int a1, .int a2] : List Value) ++ List.replicate (7 - (lg_sl ([.ref (h 5), .int a1, .int a2] : List Value)).length) Slot.unset).toArray = ls at hl ⊢
  have hl : lv_has ls 7 [(0, .ref (h 5)), (1, .int (a1)), (2, .int (a2))] := hl
  unfold f_V_go at hF
  obtain ⟨H, hHe⟩ : ∃ H, H = s.heap := ⟨_, rfl⟩
  obtain ⟨locs, hLe⟩ : ∃ L : List Loc, L = [] := ⟨_, rfl⟩
  rw [← hHe] at hP ⊢
  rw [← hLe]
  have hS : va_S A s.heap H locs := by rw [hHe, hLe]; exact hS
  refine lv_aload_n hx hb d_V_go_0 rfl (lv_at hl 0 rfl) ?_
  refine va_get (D := (dC, dI)) (ci := 4) (v := .ref (h 1)) (C := R_V) (T := T_V) (N := 6) hx hb hg in_V hown hK hP 5 rfl rfl 0 (by decide) (hg _ t_123) (fun _ h9 => h9) rfl d_V_go_1 ?_
  refine lv_iload_n hx hb d_V_go_4 rfl (lv_at hl 1 rfl) ?_
  refine lv_iconst (v := 2) hx hb d_V_go_5 (by decide) ?_
  refine lv_iload_n hx hb d_V_go_6 rfl (lv_at hl 2 rfl) ?_
  refine lv_iadd hx hb d_V_go_7 ?_
  obtain ⟨r1, u2, hX, hF⟩ := qs_bn_some hF
  refine qs_ci (Wd := qs_W h c) (isC := [0, 1, 2, 3, 4, 5, 6, 7, 8, 9, 10, 11, 12, 13, 14, 15, 16]) (va_runV (own := "QuakeServer$Mover") (C := "QuakeServer$Entities") (As := [.int (a1), .int (2 + a2)]) (rest := []) ⟨hx, hb, hml, hown, hg⟩ (c_E_field l dC dI h c H.size g (a1) (2 + a2) r1 u2 hX) (cwV 2 hg (qs_gV t_514 t_192 t_193 t_2 t_194) rfl rfl rfl (by decide +kernel) ⟨Nat.le_of_ble_eq_true rfl, Nat.le_of_ble_eq_true rfl⟩) ⟨qs_blind, va_recv hK hP (ci := 0) (q0 := 1) rfl rfl, fun U hU hW => ⟨rfl, by rw [hU], by rw [hU]; exact hP, va_K.moved hW.alike hK, hD.weaken (fun _ _ _ _ => trivial), hNs.warm hW⟩⟩ rfl rfl hl.1 rfl (lv_room (Nat.le_of_ble_eq_true rfl)) d_V_go_8 ⟨Nat.le_of_ble_eq_true rfl, Nat.le_of_ble_eq_true rfl⟩) rfl hP hD hS hA (fun H locs hP hD hS => ?_)
  refine lv_istore_n (lv' := [(3, .int (r1)), (0, .ref (h 5)), (1, .int (a1)), (2, .int (a2))]) hx hb d_V_go_11 rfl hl (by decide) rfl (fun ls hl => ?_)
  refine lv_iload_n hx hb d_V_go_12 rfl (lv_at hl 0 rfl) ?_
  refine lv_bipush (v := 8) hx hb d_V_go_13 (by decide) ?_
  obtain ⟨r3, hX, hF⟩ := qs_pb_some hF
  refine qs_psi (va_runS (own := "QuakeServer$Mover") (As := [.int (r1), .int (8)]) (rest := []) ⟨hx, hb, hml, hown, hg⟩ (c_J_floorDiv_III l H.size (r1) (8) r3 hX) (va_cwS 2 hg (qs_gS t_525 t_526 t_15 t_527) rfl rfl rfl (by decide +kernel) ⟨Nat.le_of_ble_eq_true rfl, Nat.le_of_ble_eq_true rfl⟩) ⟨qs_blind0, fun U hU hW => ⟨rfl, by rw [hU], hNs.warm hW⟩⟩ rfl rfl hl.1 rfl (lv_room (Nat.le_of_ble_eq_true rfl)) d_V_go_15 ⟨Nat.le_of_ble_eq_true rfl, Nat.le_of_ble_eq_true rfl⟩) hP hD hS hA (fun H locs hP hS => ?_)
  refine lv_istore (lv' := [(4, .int (r3)), (3, .int (r1)), (0, .ref (h 5)), (1, .int (a1)), (2, .int (a2))]) hx hb d_V_go_18 hl (by decide) rfl (fun ls hl => ?_)
  refine lv_iload hx hb d_V_go_20 (lv_at hl 0 rfl) ?_
  refine lv_if_ne (tgt := 28) hx hb d_V_go_22 (by decide) (fun c4 => ?_) (fun c4 => ?_)
  · have hF := qs_neg c4 hF
    refine lv_aload_n hx hb d_V_go_28 rfl (lv_at hl 2 rfl) ?_
    refine lv_iload hx hb d_V_go_29 (lv_at hl 0 rfl) ?_
    refine va_mabs hx hb (hml.trans hl.1.symm) hown (hg _ t_528) (hg _ t_529) (hg _ t_15) (hg _ t_530) (Nat.le_of_ble_eq_true rfl) (Nat.le_of_ble_eq_true rfl) (Nat.zero_le _) (Nat.zero_le _) d_V_go_31 ?_
    refine va_put (D := (dC, dI)) (ci := 4) (v := .int (if 0 ≤ r3 then r3 else 0 - r3)) (ty := .int) (C := R_V) (T := T_V) (N := 6) hx hb hg in_V ty_V ty_V_ok nm_V hown hK hP hD hS 5 rfl rfl 4 (by decide) (hg _ t_128) (fun _ h9 => h9) rfl (by decide +kernel) rfl rfl (Nat.le_of_ble_eq_true rfl) d_V_go_34 (fun H locs hP hD hS => ?_)
    obtain ⟨u5, hu5, hF⟩ := qs_st_some hF
    have hP : va_P (dC, dI) vwCl (qs_W h c u5) H := by rw [hu5]; exact hP
    have hD : va_D A (qs_W h c u5) := by rw [hu5]; exact hD
    clear hu5
    refine lv_aload_n hx hb d_V_go_37 rfl (lv_at hl 2 rfl) ?_
    refine lv_bipush (v := (-2)) hx hb d_V_go_38 (by decide) ?_
    refine va_put (D := (dC, dI)) (ci := 4) (v := .int ((-2))) (ty := .int) (C := R_V) (T := T_V) (N := 6) hx hb hg in_V ty_V ty_V_ok nm_V hown hK hP hD hS 5 rfl rfl 5 (by decide) (hg _ t_129) (fun _ h9 => h9) rfl (by decide +kernel) rfl rfl (Nat.le_of_ble_eq_true rfl) d_V_go_40 (fun H locs hP hD hS => ?_)
    obtain ⟨u6, hu6, hF⟩ := qs_st_some hF
    have hP : va_P (dC, dI) vwCl (qs_W h c u6) H := by rw [hu6]; exact hP
    have hD : va_D A (qs_W h c u6) := by rw [hu6]; exact hD
    clear hu6
    refine lv_aload_n hx hb d_V_go_43 rfl (lv_at hl 2 rfl) ?_
    refine lv_iload_n hx hb d_V_go_44 rfl (lv_at hl 3 rfl) ?_
    refine lv_iload_n hx hb d_V_go_45 rfl (lv_at hl 4 rfl) ?_
    refine lv_iload hx hb d_V_go_46 (lv_at hl 0 rfl) ?_
    refine lv_if_le (tgt := 55) hx hb d_V_go_48 (by decide) (fun c7 => ?_) (fun c7 => ?_)
    · have hF := qs_pos c7 hF
      refine lv_iconst (v := 0) hx hb d_V_go_55 (by decide) ?_
      exact kb_56 u6 (a1) (a2) (r1) (r3) (a1) (a2) (0) H locs ls hP hD hS (lv_sub hl [2, 3, 4, 1, 0] rfl) hF
    · have hF := qs_neg c7 hF
      refine lv_iconst (v := 1) hx hb d_V_go_51 (by decide) ?_
      refine lv_goto (tgt := 56) hx hb d_V_go_52 (by decide) ?_
      exact kb_56 u6 (a1) (a2) (r1) (r3) (a1) (a2) (1) H locs ls hP hD hS (lv_sub hl [2, 3, 4, 1, 0] rfl) hF
  · have hF := qs_pos c4 hF
    refine lv_bipush (v := (-2)) hx hb d_V_go_25 (by decide) ?_
    obtain ⟨h8, h9⟩ := qs_ret hF
    exact W.iret (v := (-2)) hx hb hr (fun t ht hW => ⟨⟨(-2), u2, rfl, ⟨h8, h9⟩, by rw [ht]; exact hP, va_K.moved hW.alike hK, hD⟩, hS.F ht⟩) hS.2.2 d_V_go_27

theorem d_V_travel_0 : decode b_V_travel 0 = .ok (.aload_n 0, 1) := by decide +kernel
theorem d_V_travel_1 : decode b_V_travel 1 = .ok (.iload_n 1, 1) := by decide +kernel
theorem d_V_travel_2 : decode b_V_travel 2 = .ok (.iload_n 2, 1) := by decide +kernel
theorem d_V_travel_3 : decode b_V_travel 3 = .ok (.invokevirtual 51, 3) := by decide +kernel
theorem d_V_travel_6 : decode b_V_travel 6 = .ok (.istore_n 3, 1) := by decide +kernel
theorem d_V_travel_7 : decode b_V_travel 7 = .ok (.iload_n 3, 1) := by decide +kernel
theorem d_V_travel_8 : decode b_V_travel 8 = .ok (.bipush (-2), 2) := by decide +kernel
theorem d_V_travel_10 : decode b_V_travel 10 = .ok (.if_icmp .ne 4, 3) := by decide +kernel
theorem d_V_travel_13 : decode b_V_travel 13 = .ok (.return_, 1) := by decide +kernel
theorem d_V_travel_14 : decode b_V_travel 14 = .ok (.aload_n 0, 1) := by decide +kernel
theorem d_V_travel_15 : decode b_V_travel 15 = .ok (.dup, 1) := by decide +kernel
theorem d_V_travel_16 : decode b_V_travel 16 = .ok (.getfield 54, 3) := by decide +kernel
theorem d_V_travel_19 : decode b_V_travel 19 = .ok (.iconst 1, 1) := by decide +kernel
theorem d_V_travel_20 : decode b_V_travel 20 = .ok (.iadd, 1) := by decide +kernel
theorem d_V_travel_21 : decode b_V_travel 21 = .ok (.putfield 54, 3) := by decide +kernel
theorem d_V_travel_24 : decode b_V_travel 24 = .ok (.aload_n 0, 1) := by decide +kernel
theorem d_V_travel_25 : decode b_V_travel 25 = .ok (.getfield 19, 3) := by decide +kernel
theorem d_V_travel_28 : decode b_V_travel 28 = .ok (.aload_n 0, 1) := by decide +kernel
theorem d_V_travel_29 : decode b_V_travel 29 = .ok (.getfield 9, 3) := by decide +kernel
theorem d_V_travel_32 : decode b_V_travel 32 = .ok (.iload_n 1, 1) := by decide +kernel
theorem d_V_travel_33 : decode b_V_travel 33 = .ok (.bipush 8, 2) := by decide +kernel
theorem d_V_travel_35 : decode b_V_travel 35 = .ok (.invokevirtual 23, 3) := by decide +kernel
theorem d_V_travel_38 : decode b_V_travel 38 = .ok (.iconst 1, 1) := by decide +kernel
theorem d_V_travel_39 : decode b_V_travel 39 = .ok (.isub, 1) := by decide +kernel
theorem d_V_travel_40 : decode b_V_travel 40 = .ok (.iload_n 1, 1) := by decide +kernel
theorem d_V_travel_41 : decode b_V_travel 41 = .ok (.iload_n 3, 1) := by decide +kernel
theorem d_V_travel_42 : decode b_V_travel 42 = .ok (.invokevirtual 58, 3) := by decide +kernel
theorem d_V_travel_45 : decode b_V_travel 45 = .ok (.pop, 1) := by decide +kernel
theorem d_V_travel_46 : decode b_V_travel 46 = .ok (.aload_n 0, 1) := by decide +kernel
theorem d_V_travel_47 : decode b_V_travel 47 = .ok (.getfield 9, 3) := by decide +kernel
theorem d_V_travel_50 : decode b_V_travel 50 = .ok (.iload_n 3, 1) := by decide +kernel
theorem d_V_travel_51 : decode b_V_travel 51 = .ok (.invokevirtual 64, 3) := by decide +kernel
theorem d_V_travel_54 : decode b_V_travel 54 = .ok (.ifCond .eq 36, 3) := by decide +kernel
theorem d_V_travel_57 : decode b_V_travel 57 = .ok (.aload_n 0, 1) := by decide +kernel
theorem d_V_travel_58 : decode b_V_travel 58 = .ok (.getfield 9, 3) := by decide +kernel
theorem d_V_travel_61 : decode b_V_travel 61 = .ok (.iload_n 1, 1) := by decide +kernel
theorem d_V_travel_62 : decode b_V_travel 62 = .ok (.invokevirtual 64, 3) := by decide +kernel
theorem d_V_travel_65 : decode b_V_travel 65 = .ok (.ifCond .eq 25, 3) := by decide +kernel
theorem d_V_travel_68 : decode b_V_travel 68 = .ok (.aload_n 0, 1) := by decide +kernel
theorem d_V_travel_69 : decode b_V_travel 69 = .ok (.getfield 19, 3) := by decide +kernel
theorem d_V_travel_72 : decode b_V_travel 72 = .ok (.aload_n 0, 1) := by decide +kernel
theorem d_V_travel_73 : decode b_V_travel 73 = .ok (.getfield 9, 3) := by decide +kernel
theorem d_V_travel_76 : decode b_V_travel 76 = .ok (.iload_n 3, 1) := by decide +kernel
theorem d_V_travel_77 : decode b_V_travel 77 = .ok (.bipush 8, 2) := by decide +kernel
theorem d_V_travel_79 : decode b_V_travel 79 = .ok (.invokevirtual 23, 3) := by decide +kernel
theorem d_V_travel_82 : decode b_V_travel 82 = .ok (.iconst 1, 1) := by decide +kernel
theorem d_V_travel_83 : decode b_V_travel 83 = .ok (.isub, 1) := by decide +kernel
theorem d_V_travel_84 : decode b_V_travel 84 = .ok (.iload_n 3, 1) := by decide +kernel
theorem d_V_travel_85 : decode b_V_travel 85 = .ok (.iload_n 1, 1) := by decide +kernel
theorem d_V_travel_86 : decode b_V_travel 86 = .ok (.invokevirtual 58, 3) := by decide +kernel
theorem d_V_travel_89 : decode b_V_travel 89 = .ok (.pop, 1) := by decide +kernel
theorem d_V_travel_90 : decode b_V_travel 90 = .ok (.return_, 1) := by decide +kernel
def f_V_travel (g : Sg) (a1 : Int32) (a2 : Int32) : Option (Unit × Sg) := (qs_bn (f_V_go g (a1) (a2)) fun r1 u2 => (if r1 = (-2) then (some ((), u2)) else (qs_st (qs_i u2 27 ((u2 27 0) + 1)) fun u4 => (qs_bn (f_E_wholeField u4 (a1) (8)) fun r5 u6 => (qs_bn (f_M_start u6 (r5 - 1) (a1) (r1)) fun r7 u8 => (qs_bn (f_E_isThere u8 (r1)) fun r9 u10 => (if r9 = 0 then (some ((), u10)) else (qs_bn (f_E_isThere u10 (a1)) fun r12 u13 => (if r12 = 0 then (some ((), u13)) else (qs_bn (f_E_wholeField u13 (r1) (8)) fun r15 u16 => (qs_bn (f_M_start u16 (r15 - 1) (r1) (a1)) fun r17 u18 => (some ((), u18)))))))))))))
set_option maxHeartbeats 4000000 in
set_option maxRecDepth 100000 in
theorem c_V_travel (l : Launch) (dC : Nat → ClassId) (dI : Nat → Nat → Nat) (h : Nat → Nat) (c : Nat → ClassId) (sz : Nat) (g : Sg) (a1 : Int32) (a2 : Int32) (u0 : Sg) (hF : f_V_travel g a1 a2 = some ((), u0)) : Met l y_V_travel (qs_ws y_V_travel b_V_travel 4 none) ({ frames := 5, cells := 0, slots := 0, locals := 121 } : Room) (va_Pc ([.ref (h 5), .int a1, .int a2] : List Value) (fun U => U.heap.size = sz ∧ va_P (dC, dI) vwCl (qs_W h c g) U.heap ∧ va_K (dC, dI) vwCl (qs_T c) U ∧ va_D (fun _ => True) (qs_W h c g) ∧ qs_N U)) (va_Qv (fun (u : Sg) => u = u0) (qs_at dC dI h c (va_A (qs_W h c g) sz)) (va_A (qs_W h c g) sz)) 0 0 (va_A (qs_W h c g) sz) := by
  refine Met.ofW (cc := b_V_travel) (maxL := 4) (ret := none) (by decide +kernel) rfl ?_
  intro p e s m args below meth cd s₁ B hml hv
  obtain ⟨rfl, hsz, hP, hK, hD0, hNs⟩ := hv
  have hx := B.exec
  have hb := B.bytes
  have hr := B.returns
  have hts := atoms_spec (ws := (qs_ws y_V_travel b_V_travel 4 none)) B.pre
  have hg : ∀ w ∈ qs_gt, w.before _ s = true := fun w h => hts w (List.mem_cons_of_mem _ h)
  have hown : s.vm.findClass R_V = some m.cls := findClass_of_methodNamed B.named
  have hlocks := B.notSynchronized
  subst hsz
  have hD := hD0.self (sz := s.heap.size)
  generalize hAe : va_A (qs_W h c g) s.heap.size = A at hD ⊢
  have hA : ∀ q : Nat, s.heap.size ≤ q → A q := fun q h => by rw [← hAe]; exact Or.inr h
  have hS : va_S A s.heap s.heap [] := va_S.rf
  have hl := lv_entry ([.ref (h 5), .int a1, .int a2] : List Value) (n := 4) (Nat.le_of_ble_eq_true rfl)
  rw [lg_entry_eq]
  generalize (lg_sl ([.ref (h 5), .int a1, .int a2] : List Value) ++ List.replicate (4 - (lg_sl ([.ref (h 5), .int a1, .int a2] : List Value)).length) Slot.unset).toArray = ls at hl ⊢
  have hl : lv_has ls 4 [(0, .ref (h 5)), (1, .int (a1)), (2, .int (a2))] := hl
  unfold f_V_travel at hF
  obtain ⟨H, hHe⟩ : ∃ H, H = s.heap := ⟨_, rfl⟩
  obtain ⟨locs, hLe⟩ : ∃ L : List Loc, L = [] := ⟨_, rfl⟩
  rw [← hHe] at hP ⊢
  rw [← hLe]
  have hS : va_S A s.heap H locs := by rw [hHe, hLe]; exact hS
  refine lv_aload_n hx hb d_V_travel_0 rfl (lv_at hl 0 rfl) ?_
  refine lv_iload_n hx hb d_V_travel_1 rfl (lv_at hl 1 rfl) ?_
  refine lv_iload_n hx hb d_V_travel_2 rfl (lv_at hl 2 rfl) ?_
  obtain ⟨r1, u2, hX, hF⟩ := qs_bn_some hF
  refine qs_ci (Wd := qs_W h c) (isC := [0, 1, 2, 3, 4, 5, 6, 7, 8, 9, 10, 11, 12, 13, 14, 15, 16]) (va_runV (own := "QuakeServer$Mover") (C := "QuakeServer$Mover") (As := [.int (a1), .int (a2)]) (rest := []) ⟨hx, hb, hml, hown, hg⟩ (c_V_go l dC dI h c H.size g (a1) (a2) r1 u2 hX) (cwV 2 hg (qs_gV t_521 t_523 tp_9 t_6 t_524) rfl rfl rfl (by decide +kernel) ⟨Nat.le_of_ble_eq_true rfl, Nat.le_of_ble_eq_true rfl⟩) ⟨qs_blind, va_recv hK hP (ci := 4) (q0 := 5) rfl rfl, fun U hU hW => ⟨rfl, by rw [hU], by rw [hU]; exact hP, va_K.moved hW.alike hK, hD.weaken (fun _ _ _ _ => trivial), hNs.warm hW⟩⟩ rfl rfl hl.1 rfl (lv_room (Nat.le_of_ble_eq_true rfl)) d_V_travel_3 ⟨Nat.le_of_ble_eq_true rfl, Nat.le_of_ble_eq_true rfl⟩) rfl hP hD hS hA (fun H locs hP hD hS => ?_)
  refine lv_istore_n (lv' := [(3, .int (r1)), (0, .ref (h 5)), (1, .int (a1)), (2, .int (a2))]) hx hb d_V_travel_6 rfl hl (by decide) rfl (fun ls hl => ?_)
  refine lv_iload_n hx hb d_V_travel_7 rfl (lv_at hl 0 rfl) ?_
  refine lv_bipush (v := (-2)) hx hb d_V_travel_8 (by decide) ?_
  refine lv_icmp_ne (tgt := 14) hx hb d_V_travel_10 (by decide) (fun c3 => ?_) (fun c3 => ?_)
  · have hF := qs_neg c3 hF
    refine lv_aload_n hx hb d_V_travel_14 rfl (lv_at hl 1 rfl) ?_
    refine lv_dup hx hb d_V_travel_15 rfl ?_
    refine va_get (D := (dC, dI)) (ci := 4) (v := .int (u2 27 0)) (C := R_V) (T := T_V) (N := 6) hx hb hg in_V hown hK hP 5 rfl rfl 3 (by decide) (hg _ t_126) (fun _ h9 => h9) rfl d_V_travel_16 ?_
    refine lv_iconst (v := 1) hx hb d_V_travel_19 (by decide) ?_
    refine lv_iadd hx hb d_V_travel_20 ?_
    refine va_put (D := (dC, dI)) (ci := 4) (v := .int ((u2 27 0) + 1)) (ty := .int) (C := R_V) (T := T_V) (N := 6) hx hb hg in_V ty_V ty_V_ok nm_V hown hK hP hD hS 5 rfl rfl 3 (by decide) (hg _ t_126) (fun _ h9 => h9) rfl (by decide +kernel) rfl rfl (Nat.le_of_ble_eq_true rfl) d_V_travel_21 (fun H locs hP hD hS => ?_)
    obtain ⟨u4, hu4, hF⟩ := qs_st_some hF
    have hP : va_P (dC, dI) vwCl (qs_W h c u4) H := by rw [hu4]; exact hP
    have hD : va_D A (qs_W h c u4) := by rw [hu4]; exact hD
    clear hu4
    refine lv_aload_n hx hb d_V_travel_24 rfl (lv_at hl 1 rfl) ?_
    refine va_get (D := (dC, dI)) (ci := 4) (v := .ref (h 4)) (C := R_V) (T := T_V) (N := 6) hx hb hg in_V hown hK hP 5 rfl rfl 2 (by decide) (hg _ t_125) (fun _ h9 => h9) rfl d_V_travel_25 ?_
    refine lv_aload_n hx hb d_V_travel_28 rfl (lv_at hl 1 rfl) ?_
    refine va_get (D := (dC, dI)) (ci := 4) (v := .ref (h 1)) (C := R_V) (T := T_V) (N := 6) hx hb hg in_V hown hK hP 5 rfl rfl 0 (by decide) (hg _ t_123) (fun _ h9 => h9) rfl d_V_travel_29 ?_
    refine lv_iload_n hx hb d_V_travel_32 rfl (lv_at hl 2 rfl) ?_
    refine lv_bipush (v := 8) hx hb d_V_travel_33 (by decide) ?_
    obtain ⟨r5, u6, hX, hF⟩ := qs_bn_some hF
    refine qs_ci (Wd := qs_W h c) (isC := [0, 1, 2, 3, 4, 5, 6, 7, 8, 9, 10, 11, 12, 13, 14, 15, 16]) (va_runV (own := "QuakeServer$Mover") (C := "QuakeServer$Entities") (As := [.int (a1), .int (8)]) (rest := [.ref (h 4)]) ⟨hx, hb, hml, hown, hg⟩ (c_E_wholeField l dC dI h c H.size u4 (a1) (8) r5 u6 hX) (cwV 2 hg (qs_gV t_508 t_509 t_510 t_2 t_511) rfl rfl rfl (by decide +kernel) ⟨Nat.le_of_ble_eq_true rfl, Nat.le_of_ble_eq_true rfl⟩) ⟨qs_blind, va_recv hK hP (ci := 0) (q0 := 1) rfl rfl, fun U hU hW => ⟨rfl, by rw [hU], by rw [hU]; exact hP, va_K.moved hW.alike hK, hD.weaken (fun _ _ _ _ => trivial), hNs.warm hW⟩⟩ rfl rfl hl.1 rfl (lv_room (Nat.le_of_ble_eq_true rfl)) d_V_travel_35 ⟨Nat.le_of_ble_eq_true rfl, Nat.le_of_ble_eq_true rfl⟩) rfl hP hD hS hA (fun H locs hP hD hS => ?_)
    refine lv_iconst (v := 1) hx hb d_V_travel_38 (by decide) ?_
    refine lv_isub hx hb d_V_travel_39 ?_
    refine lv_iload_n hx hb d_V_travel_40 rfl (lv_at hl 2 rfl) ?_
    refine lv_iload_n hx hb d_V_travel_41 rfl (lv_at hl 0 rfl) ?_
    obtain ⟨r7, u8, hX, hF⟩ := qs_bn_some hF
    refine qs_ci (Wd := qs_W h c) (isC := [0, 1, 2, 3, 4, 5, 6, 7, 8, 9, 10, 11, 12, 13, 14, 15, 16]) (va_runV (own := "QuakeServer$Mover") (C := "QuakeServer$Machine") (As := [.int (r5 - 1), .int (a1), .int (r1)]) (rest := []) ⟨hx, hb, hml, hown, hg⟩ (c_M_start l dC dI h c H.size u6 (r5 - 1) (a1) (r1) r7 u8 hX) (cwV 3 hg (qs_gV t_578 t_438 t_439 t_5 t_440) rfl rfl rfl (by decide +kernel) ⟨Nat.le_of_ble_eq_true rfl, Nat.le_of_ble_eq_true rfl⟩) ⟨qs_blind, va_recv hK hP (ci := 3) (q0 := 4) rfl rfl, fun U hU hW => ⟨rfl, by rw [hU], by rw [hU]; exact hP, va_K.moved hW.alike hK, hD.weaken (fun _ _ _ _ => trivial), hNs.warm hW⟩⟩ rfl rfl hl.1 rfl (lv_room (Nat.le_of_ble_eq_true rfl)) d_V_travel_42 ⟨Nat.le_of_ble_eq_true rfl, Nat.le_of_ble_eq_true rfl⟩) rfl hP hD hS hA (fun H locs hP hD hS => ?_)
    refine lv_pop hx hb d_V_travel_45 rfl ?_
    refine lv_aload_n hx hb d_V_travel_46 rfl (lv_at hl 1 rfl) ?_
    refine va_get (D := (dC, dI)) (ci := 4) (v := .ref (h 1)) (C := R_V) (T := T_V) (N := 6) hx hb hg in_V hown hK hP 5 rfl rfl 0 (by decide) (hg _ t_123) (fun _ h9 => h9) rfl d_V_travel_47 ?_
    refine lv_iload_n hx hb d_V_travel_50 rfl (lv_at hl 0 rfl) ?_
    obtain ⟨r9, u10, hX, hF⟩ := qs_bn_some hF
    refine qs_ci (Wd := qs_W h c) (isC := [0, 1, 2, 3, 4, 5, 6, 7, 8, 9, 10, 11, 12, 13, 14, 15, 16]) (va_runV (own := "QuakeServer$Mover") (C := "QuakeServer$Entities") (As := [.int (r1)]) (rest := []) ⟨hx, hb, hml, hown, hg⟩ (c_E_isThere l dC dI h c H.size u8 (r1) r9 u10 hX) (cwV 1 hg (qs_gV t_579 t_188 t_189 t_2 t_190) rfl rfl rfl (by decide +kernel) ⟨Nat.le_of_ble_eq_true rfl, Nat.le_of_ble_eq_true rfl⟩) ⟨qs_blind, va_recv hK hP (ci := 0) (q0 := 1) rfl rfl, fun U hU hW => ⟨rfl, by rw [hU], by rw [hU]; exact hP, va_K.moved hW.alike hK, hD.weaken (fun _ _ _ _ => trivial), hNs.warm hW⟩⟩ rfl rfl hl.1 rfl (lv_room (Nat.le_of_ble_eq_true rfl)) d_V_travel_51 ⟨Nat.le_of_ble_eq_true rfl, Nat.le_of_ble_eq_true rfl⟩) rfl hP hD hS hA (fun H locs hP hD hS => ?_)
    refine lv_if_eq (tgt := 90) hx hb d_V_travel_54 (by decide) (fun c11 => ?_) (fun c11 => ?_)
    · have hF := qs_pos c11 hF
      obtain ⟨h8, h9⟩ := qs_ret hF
      exact W.vret hx hb hr (fun t ht hW => ⟨⟨u10, rfl, h9, by rw [ht]; exact hP, va_K.moved hW.alike hK, hD⟩, hS.F ht⟩) hS.2.2 d_V_travel_90
    · have hF := qs_neg c11 hF
      refine lv_aload_n hx hb d_V_travel_57 rfl (lv_at hl 1 rfl) ?_
      refine va_get (D := (dC, dI)) (ci := 4) (v := .ref (h 1)) (C := R_V) (T := T_V) (N := 6) hx hb hg in_V hown hK hP 5 rfl rfl 0 (by decide) (hg _ t_123) (fun _ h9 => h9) rfl d_V_travel_58 ?_
      refine lv_iload_n hx hb d_V_travel_61 rfl (lv_at hl 2 rfl) ?_
      obtain ⟨r12, u13, hX, hF⟩ := qs_bn_some hF
      refine qs_ci (Wd := qs_W h c) (isC := [0, 1, 2, 3, 4, 5, 6, 7, 8, 9, 10, 11, 12, 13, 14, 15, 16]) (va_runV (own := "QuakeServer$Mover") (C := "QuakeServer$Entities") (As := [.int (a1)]) (rest := []) ⟨hx, hb, hml, hown, hg⟩ (c_E_isThere l dC dI h c H.size u10 (a1) r12 u13 hX) (cwV 1 hg (qs_gV t_579 t_188 t_189 t_2 t_190) rfl rfl rfl (by decide +kernel) ⟨Nat.le_of_ble_eq_true rfl, Nat.le_of_ble_eq_true rfl⟩) ⟨qs_blind, va_recv hK hP (ci := 0) (q0 := 1) rfl rfl, fun U hU hW => ⟨rfl, by rw [hU], by rw [hU]; exact hP, va_K.moved hW.alike hK, hD.weaken (fun _ _ _ _ => trivial), hNs.warm hW⟩⟩ rfl rfl hl.1 rfl (lv_room (Nat.le_of_ble_eq_true rfl)) d_V_travel_62 ⟨Nat.le_of_ble_eq_true rfl, Nat.le_of_ble_eq_true rfl⟩) rfl hP hD hS hA (fun H locs hP hD hS => ?_)
      refine lv_if_eq (tgt := 90) hx hb d_V_travel_65 (by decide) (fun c14 => ?_) (fun c14 => ?_)
      · have hF := qs_pos c14 hF
        obtain ⟨h8, h9⟩ := qs_ret hF
        exact W.vret hx hb hr (fun t ht hW => ⟨⟨u13, rfl, h9, by rw [ht]; exact hP, va_K.moved hW.alike hK, hD⟩, hS.F ht⟩) hS.2.2 d_V_travel_90
      · have hF := qs_neg c14 hF
        refine lv_aload_n hx hb d_V_travel_68 rfl (lv_at hl 1 rfl) ?_
        refine va_get (D := (dC, dI)) (ci := 4) (v := .ref (h 4)) (C := R_V) (T := T_V) (N := 6) hx hb hg in_V hown hK hP 5 rfl rfl 2 (by decide) (hg _ t_125) (fun _ h9 => h9) rfl d_V_travel_69 ?_
        refine lv_aload_n hx hb d_V_travel_72 rfl (lv_at hl 1 rfl) ?_
        refine va_get (D := (dC, dI)) (ci := 4) (v := .ref (h 1)) (C := R_V) (T := T_V) (N := 6) hx hb hg in_V hown hK hP 5 rfl rfl 0 (by decide) (hg _ t_123) (fun _ h9 => h9) rfl d_V_travel_73 ?_
        refine lv_iload_n hx hb d_V_travel_76 rfl (lv_at hl 0 rfl) ?_
        refine lv_bipush (v := 8) hx hb d_V_travel_77 (by decide) ?_
        obtain ⟨r15, u16, hX, hF⟩ := qs_bn_some hF
        refine qs_ci (Wd := qs_W h c) (isC := [0, 1, 2, 3, 4, 5, 6, 7, 8, 9, 10, 11, 12, 13, 14, 15, 16]) (va_runV (own := "QuakeServer$Mover") (C := "QuakeServer$Entities") (As := [.int (r1), .int (8)]) (rest := [.ref (h 4)]) ⟨hx, hb, hml, hown, hg⟩ (c_E_wholeField l dC dI h c H.size u13 (r1) (8) r15 u16 hX) (cwV 2 hg (qs_gV t_508 t_509 t_510 t_2 t_511) rfl rfl rfl (by decide +kernel) ⟨Nat.le_of_ble_eq_true rfl, Nat.le_of_ble_eq_true rfl⟩) ⟨qs_blind, va_recv hK hP (ci := 0) (q0 := 1) rfl rfl, fun U hU hW => ⟨rfl, by rw [hU], by rw [hU]; exact hP, va_K.moved hW.alike hK, hD.weaken (fun _ _ _ _ => trivial), hNs.warm hW⟩⟩ rfl rfl hl.1 rfl (lv_room (Nat.le_of_ble_eq_true rfl)) d_V_travel_79 ⟨Nat.le_of_ble_eq_true rfl, Nat.le_of_ble_eq_true rfl⟩) rfl hP hD hS hA (fun H locs hP hD hS => ?_)
        refine lv_iconst (v := 1) hx hb d_V_travel_82 (by decide) ?_
        refine lv_isub hx hb d_V_travel_83 ?_
        refine lv_iload_n hx hb d_V_travel_84 rfl (lv_at hl 0 rfl) ?_
        refine lv_iload_n hx hb d_V_travel_85 rfl (lv_at hl 2 rfl) ?_
        obtain ⟨r17, u18, hX, hF⟩ := qs_bn_some hF
        refine qs_ci (Wd := qs_W h c) (isC := [0, 1, 2, 3, 4, 5, 6, 7, 8, 9, 10, 11, 12, 13, 14, 15, 16]) (va_runV (own := "QuakeServer$Mover") (C := "QuakeServer$Machine") (As := [.int (r15 - 1), .int (r1), .int (a1)]) (rest := []) ⟨hx, hb, hml, hown, hg⟩ (c_M_start l dC dI h c H.size u16 (r15 - 1) (r1) (a1) r17 u18 hX) (cwV 3 hg (qs_gV t_578 t_438 t_439 t_5 t_440) rfl rfl rfl (by decide +kernel) ⟨Nat.le_of_ble_eq_true rfl, Nat.le_of_ble_eq_true rfl⟩) ⟨qs_blind, va_recv hK hP (ci := 3) (q0 := 4) rfl rfl, fun U hU hW => ⟨rfl, by rw [hU], by rw [hU]; exact hP, va_K.moved hW.alike hK, hD.weaken (fun _ _ _ _ => trivial), hNs.warm hW⟩⟩ rfl rfl hl.1 rfl (lv_room (Nat.le_of_ble_eq_true rfl)) d_V_travel_86 ⟨Nat.le_of_ble_eq_true rfl, Nat.le_of_ble_eq_true rfl⟩) rfl hP hD hS hA (fun H locs hP hD hS => ?_)
        refine lv_pop hx hb d_V_travel_89 rfl ?_
        obtain ⟨h8, h9⟩ := qs_ret hF
        exact W.vret hx hb hr (fun t ht hW => ⟨⟨u18, rfl, h9, by rw [ht]; exact hP, va_K.moved hW.alike hK, hD⟩, hS.F ht⟩) hS.2.2 d_V_travel_90
  · have hF := qs_pos c3 hF
    obtain ⟨h8, h9⟩ := qs_ret hF
    exact W.vret hx hb hr (fun t ht hW => ⟨⟨u2, rfl, h9, by rw [ht]; exact hP, va_K.moved hW.alike hK, hD⟩, hS.F ht⟩) hS.2.2 d_V_travel_13

theorem d_V_touchTriggers_0 : decode b_V_touchTriggers 0 = .ok (.aload_n 0, 1) := by decide +kernel
theorem d_V_touchTriggers_1 : decode b_V_touchTriggers 1 = .ok (.getfield 9, 3) := by decide +kernel
theorem d_V_touchTriggers_4 : decode b_V_touchTriggers 4 = .ok (.iload_n 1, 1) := by decide +kernel
theorem d_V_touchTriggers_5 : decode b_V_touchTriggers 5 = .ok (.iconst 5, 1) := by decide +kernel
theorem d_V_touchTriggers_6 : decode b_V_touchTriggers 6 = .ok (.invokevirtual 23, 3) := by decide +kernel
theorem d_V_touchTriggers_9 : decode b_V_touchTriggers 9 = .ok (.iconst 1, 1) := by decide +kernel
theorem d_V_touchTriggers_10 : decode b_V_touchTriggers 10 = .ok (.if_icmp .ne 4, 3) := by decide +kernel
theorem d_V_touchTriggers_13 : decode b_V_touchTriggers 13 = .ok (.return_, 1) := by decide +kernel
theorem d_V_touchTriggers_14 : decode b_V_touchTriggers 14 = .ok (.iconst 0, 1) := by decide +kernel
theorem d_V_touchTriggers_15 : decode b_V_touchTriggers 15 = .ok (.istore_n 2, 1) := by decide +kernel
theorem d_V_touchTriggers_16 : decode b_V_touchTriggers 16 = .ok (.iload_n 2, 1) := by decide +kernel
theorem d_V_touchTriggers_17 : decode b_V_touchTriggers 17 = .ok (.bipush 12, 2) := by decide +kernel
theorem d_V_touchTriggers_19 : decode b_V_touchTriggers 19 = .ok (.if_icmp .ge 86, 3) := by decide +kernel
theorem d_V_touchTriggers_22 : decode b_V_touchTriggers 22 = .ok (.aload_n 0, 1) := by decide +kernel
theorem d_V_touchTriggers_23 : decode b_V_touchTriggers 23 = .ok (.getfield 9, 3) := by decide +kernel
theorem d_V_touchTriggers_26 : decode b_V_touchTriggers 26 = .ok (.iload_n 1, 1) := by decide +kernel
theorem d_V_touchTriggers_27 : decode b_V_touchTriggers 27 = .ok (.invokevirtual 64, 3) := by decide +kernel
theorem d_V_touchTriggers_30 : decode b_V_touchTriggers 30 = .ok (.ifCond .eq 75, 3) := by decide +kernel
theorem d_V_touchTriggers_33 : decode b_V_touchTriggers 33 = .ok (.iload_n 2, 1) := by decide +kernel
theorem d_V_touchTriggers_34 : decode b_V_touchTriggers 34 = .ok (.iload_n 1, 1) := by decide +kernel
theorem d_V_touchTriggers_35 : decode b_V_touchTriggers 35 = .ok (.if_icmp .eq 64, 3) := by decide +kernel
theorem d_V_touchTriggers_38 : decode b_V_touchTriggers 38 = .ok (.aload_n 0, 1) := by decide +kernel
theorem d_V_touchTriggers_39 : decode b_V_touchTriggers 39 = .ok (.getfield 9, 3) := by decide +kernel
theorem d_V_touchTriggers_42 : decode b_V_touchTriggers 42 = .ok (.iload_n 2, 1) := by decide +kernel
theorem d_V_touchTriggers_43 : decode b_V_touchTriggers 43 = .ok (.iconst 5, 1) := by decide +kernel
theorem d_V_touchTriggers_44 : decode b_V_touchTriggers 44 = .ok (.invokevirtual 23, 3) := by decide +kernel
theorem d_V_touchTriggers_47 : decode b_V_touchTriggers 47 = .ok (.iconst 1, 1) := by decide +kernel
theorem d_V_touchTriggers_48 : decode b_V_touchTriggers 48 = .ok (.if_icmp .ne 51, 3) := by decide +kernel
theorem d_V_touchTriggers_51 : decode b_V_touchTriggers 51 = .ok (.aload_n 0, 1) := by decide +kernel
theorem d_V_touchTriggers_52 : decode b_V_touchTriggers 52 = .ok (.getfield 9, 3) := by decide +kernel
theorem d_V_touchTriggers_55 : decode b_V_touchTriggers 55 = .ok (.iload_n 2, 1) := by decide +kernel
theorem d_V_touchTriggers_56 : decode b_V_touchTriggers 56 = .ok (.iload_n 1, 1) := by decide +kernel
theorem d_V_touchTriggers_57 : decode b_V_touchTriggers 57 = .ok (.iconst 0, 1) := by decide +kernel
theorem d_V_touchTriggers_58 : decode b_V_touchTriggers 58 = .ok (.invokevirtual 110, 3) := by decide +kernel
theorem d_V_touchTriggers_61 : decode b_V_touchTriggers 61 = .ok (.ifCond .eq 38, 3) := by decide +kernel
theorem d_V_touchTriggers_64 : decode b_V_touchTriggers 64 = .ok (.aload_n 0, 1) := by decide +kernel
theorem d_V_touchTriggers_65 : decode b_V_touchTriggers 65 = .ok (.getfield 9, 3) := by decide +kernel
theorem d_V_touchTriggers_68 : decode b_V_touchTriggers 68 = .ok (.iload_n 2, 1) := by decide +kernel
theorem d_V_touchTriggers_69 : decode b_V_touchTriggers 69 = .ok (.iload_n 1, 1) := by decide +kernel
theorem d_V_touchTriggers_70 : decode b_V_touchTriggers 70 = .ok (.iconst 1, 1) := by decide +kernel
theorem d_V_touchTriggers_71 : decode b_V_touchTriggers 71 = .ok (.invokevirtual 110, 3) := by decide +kernel
theorem d_V_touchTriggers_74 : decode b_V_touchTriggers 74 = .ok (.ifCond .eq 25, 3) := by decide +kernel
theorem d_V_touchTriggers_77 : decode b_V_touchTriggers 77 = .ok (.aload_n 0, 1) := by decide +kernel
theorem d_V_touchTriggers_78 : decode b_V_touchTriggers 78 = .ok (.getfield 19, 3) := by decide +kernel
theorem d_V_touchTriggers_81 : decode b_V_touchTriggers 81 = .ok (.aload_n 0, 1) := by decide +kernel
theorem d_V_touchTriggers_82 : decode b_V_touchTriggers 82 = .ok (.getfield 9, 3) := by decide +kernel
theorem d_V_touchTriggers_85 : decode b_V_touchTriggers 85 = .ok (.iload_n 2, 1) := by decide +kernel
theorem d_V_touchTriggers_86 : decode b_V_touchTriggers 86 = .ok (.bipush 8, 2) := by decide +kernel
theorem d_V_touchTriggers_88 : decode b_V_touchTriggers 88 = .ok (.invokevirtual 23, 3) := by decide +kernel
theorem d_V_touchTriggers_91 : decode b_V_touchTriggers 91 = .ok (.iconst 1, 1) := by decide +kernel
theorem d_V_touchTriggers_92 : decode b_V_touchTriggers 92 = .ok (.isub, 1) := by decide +kernel
theorem d_V_touchTriggers_93 : decode b_V_touchTriggers 93 = .ok (.iload_n 2, 1) := by decide +kernel
theorem d_V_touchTriggers_94 : decode b_V_touchTriggers 94 = .ok (.iload_n 1, 1) := by decide +kernel
theorem d_V_touchTriggers_95 : decode b_V_touchTriggers 95 = .ok (.invokevirtual 58, 3) := by decide +kernel
theorem d_V_touchTriggers_98 : decode b_V_touchTriggers 98 = .ok (.pop, 1) := by decide +kernel
theorem d_V_touchTriggers_99 : decode b_V_touchTriggers 99 = .ok (.iinc 2 1, 3) := by decide +kernel
theorem d_V_touchTriggers_102 : decode b_V_touchTriggers 102 = .ok (.goto (-86), 3) := by decide +kernel
theorem d_V_touchTriggers_105 : decode b_V_touchTriggers 105 = .ok (.return_, 1) := by decide +kernel
def f_V_touchTriggers_99 (k16 : Sg → Int32 → Int32 → Option (Unit × Sg)) (g : Sg) (x1 : Int32) (x2 : Int32) : Option (Unit × Sg) := (k16 g (x1) (x2 + 1))
def f_V_touchTriggers_16  : Nat → Sg → Int32 → Int32 → Option (Unit × Sg)
  | 0, _, _, _ => none
  | n + 1, g, x1, x2 => (if 12 ≤ x2 then (some ((), g)) else (qs_bn (f_E_isThere g (x1)) fun r5 u6 => (if r5 = 0 then (some ((), u6)) else (if x2 = x1 then (f_V_touchTriggers_99 (fun g x1 x2 => f_V_touchTriggers_16  n g x1 x2) u6 (x1) (x2)) else (qs_bn (f_E_wholeField u6 (x2) (5)) fun r9 u10 => (if r9 = 1 then (qs_bn (f_E_boxesOverlap u10 (x2) (x1) (0)) fun r12 u13 => (if r12 = 0 then (f_V_touchTriggers_99 (fun g x1 x2 => f_V_touchTriggers_16  n g x1 x2) u13 (x1) (x2)) else (qs_bn (f_E_boxesOverlap u13 (x2) (x1) (1)) fun r15 u16 => (if r15 = 0 then (f_V_touchTriggers_99 (fun g x1 x2 => f_V_touchTriggers_16  n g x1 x2) u16 (x1) (x2)) else (qs_bn (f_E_wholeField u16 (x2) (8)) fun r18 u19 => (qs_bn (f_M_start u19 (r18 - 1) (x2) (x1)) fun r20 u21 => (f_V_touchTriggers_99 (fun g x1 x2 => f_V_touchTriggers_16  n g x1 x2) u21 (x1) (x2)))))))) else (f_V_touchTriggers_99 (fun g x1 x2 => f_V_touchTriggers_16  n g x1 x2) u10 (x1) (x2))))))))
def f_V_touchTriggers (g : Sg) (a1 : Int32) : Option (Unit × Sg) := (qs_bn (f_E_wholeField g (a1) (5)) fun r1 u2 => (if r1 = 1 then (some ((), u2)) else (f_V_touchTriggers_16 200 u2 (a1) (0))))
set_option maxHeartbeats 4000000 in
set_option maxRecDepth 100000 in
theorem c_V_touchTriggers (l : Launch) (dC : Nat → ClassId) (dI : Nat → Nat → Nat) (h : Nat → Nat) (c : Nat → ClassId) (sz : Nat) (g : Sg) (a1 : Int32) (u0 : Sg) (hF : f_V_touchTriggers g a1 = some ((), u0)) : Met l y_V_touchTriggers (qs_ws y_V_touchTriggers b_V_touchTriggers 3 none) ({ frames := 5, cells := 0, slots := 0, locals := 121 } : Room) (va_Pc ([.ref (h 5), .int a1] : List Value) (fun U => U.heap.size = sz ∧ va_P (dC, dI) vwCl (qs_W h c g) U.heap ∧ va_K (dC, dI) vwCl (qs_T c) U ∧ va_D (fun _ => True) (qs_W h c g) ∧ qs_N U)) (va_Qv (fun (u : Sg) => u = u0) (qs_at dC dI h c (va_A (qs_W h c g) sz)) (va_A (qs_W h c g) sz)) 0 0 (va_A (qs_W h c g) sz) := by
  refine Met.ofW (cc := b_V_touchTriggers) (maxL := 3) (ret := none) (by decide +kernel) rfl ?_
  intro p e s m args below meth cd s₁ B hml hv
  obtain ⟨rfl, hsz, hP, hK, hD0, hNs⟩ := hv
  have hx := B.exec
  have hb := B.bytes
  have hr := B.returns
  have hts := atoms_spec (ws := (qs_ws y_V_touchTriggers b_V_touchTriggers 3 none)) B.pre
  have hg : ∀ w ∈ qs_gt, w.before _ s = true := fun w h => hts w (List.mem_cons_of_mem _ h)
  have hown : s.vm.findClass R_V = some m.cls := findClass_of_methodNamed B.named
  have hlocks := B.notSynchronized
  subst hsz
  have hD := hD0.self (sz := s.heap.size)
  generalize hAe : va_A (qs_W h c g) s.heap.size = A at hD ⊢
  have hA : ∀ q : Nat, s.heap.size ≤ q → A q := fun q h => by rw [← hAe]; exact Or.inr h
  have hS : va_S A s.heap s.heap [] := va_S.rf
  have kb_99 : ∀ (k16 : Sg → Int32 → Int32 → Option (Unit × Sg)), (∀ (g : Sg) (x1 : Int32) (x2 : Int32) (H : Heap) (locs : List Loc) (ls : Array Slot), va_P (dC, dI) vwCl (qs_W h c g) H → va_D A (qs_W h c g) → va_S A s.heap H locs → lv_has ls 3 [(0, .ref (h 5)), (1, .int (x1)), (2, .int (x2))] → k16 g x1 x2 = some ((), u0) → W p l e (headSpec (qs_ws y_V_touchTriggers b_V_touchTriggers 3 none) ({ frames := 5, cells := 0, slots := 0, locals := 121 } : Room)).room s m ([.ref (h 5), .int a1] : List Value).toArray below meth cd H locs 0 0 (MQ below (va_Qv (fun (u : Sg) => u = u0) (qs_at dC dI h c A) A) ([.ref (h 5), .int a1] : List Value).toArray s 0 0 A) (F0 m 16 ls [])) → ∀ (g : Sg) (x1 : Int32) (x2 : Int32) (H : Heap) (locs : List Loc) (ls : Array Slot), va_P (dC, dI) vwCl (qs_W h c g) H → va_D A (qs_W h c g) → va_S A s.heap H locs → lv_has ls 3 [(0, .ref (h 5)), (1, .int (x1)), (2, .int (x2))] → f_V_touchTriggers_99 k16  g x1 x2 = some ((), u0) → W p l e (headSpec (qs_ws y_V_touchTriggers b_V_touchTriggers 3 none) ({ frames := 5, cells := 0, slots := 0, locals := 121 } : Room)).room s m ([.ref (h 5), .int a1] : List Value).toArray below meth cd H locs 0 0 (MQ below (va_Qv (fun (u : Sg) => u = u0) (qs_at dC dI h c A) A) ([.ref (h 5), .int a1] : List Value).toArray s 0 0 A) (F0 m 99 ls []) := by
    intro k16 hk16
    intro g x1 x2 H locs ls hP hD hS hl hF
    unfold f_V_touchTriggers_99 at hF
    refine lv_iinc (v := x2 + 1) (lv' := [(2, .int (x2 + 1)), (0, .ref (h 5)), (1, .int (x1))]) hx hb d_V_touchTriggers_99 hl (k := 2) rfl (by rfl) (by decide) rfl (fun ls hl => ?_)
    refine lv_goto (tgt := 16) hx hb d_V_touchTriggers_102 (by decide) ?_
    exact hk16 g (x1) (x2 + 1) H locs ls hP hD hS (lv_sub hl [1, 2, 0] rfl) hF
  have kb_16 : ∀ n : Nat, ∀ (g : Sg) (x1 : Int32) (x2 : Int32) (H : Heap) (locs : List Loc) (ls : Array Slot), va_P (dC, dI) vwCl (qs_W h c g) H → va_D A (qs_W h c g) → va_S A s.heap H locs → lv_has ls 3 [(0, .ref (h 5)), (1, .int (x1)), (2, .int (x2))] → f_V_touchTriggers_16 n g x1 x2 = some ((), u0) → W p l e (headSpec (qs_ws y_V_touchTriggers b_V_touchTriggers 3 none) ({ frames := 5, cells := 0, slots := 0, locals := 121 } : Room)).room s m ([.ref (h 5), .int a1] : List Value).toArray below meth cd H locs 0 0 (MQ below (va_Qv (fun (u : Sg) => u = u0) (qs_at dC dI h c A) A) ([.ref (h 5), .int a1] : List Value).toArray s 0 0 A) (F0 m 16 ls []) := by
    intro n
    induction n with
    | zero =>
      intro g x1 x2 H locs ls hP hD hS hl hF
      exact nomatch (show (none : Option (Unit × Sg)) = some _ from hF)
    | succ n ih =>
      intro g x1 x2 H locs ls hP hD hS hl hF
      rw [f_V_touchTriggers_16] at hF
      refine lv_iload_n hx hb d_V_touchTriggers_16 rfl (lv_at hl 2 rfl) ?_
      refine lv_bipush (v := 12) hx hb d_V_touchTriggers_17 (by decide) ?_
      refine lv_icmp_ge (tgt := 105) hx hb d_V_touchTriggers_19 (by decide) (fun c4 => ?_) (fun c4 => ?_)
      · have hF := qs_pos c4 hF
        obtain ⟨h8, h9⟩ := qs_ret hF
        exact W.vret hx hb hr (fun t ht hW => ⟨⟨g, rfl, h9, by rw [ht]; exact hP, va_K.moved hW.alike hK, hD⟩, hS.F ht⟩) hS.2.2 d_V_touchTriggers_105
      · have hF := qs_neg c4 hF
        refine lv_aload_n hx hb d_V_touchTriggers_22 rfl (lv_at hl 0 rfl) ?_
        refine va_get (D := (dC, dI)) (ci := 4) (v := .ref (h 1)) (C := R_V) (T := T_V) (N := 6) hx hb hg in_V hown hK hP 5 rfl rfl 0 (by decide) (hg _ t_123) (fun _ h9 => h9) rfl d_V_touchTriggers_23 ?_
        refine lv_iload_n hx hb d_V_touchTriggers_26 rfl (lv_at hl 1 rfl) ?_
        obtain ⟨r5, u6, hX, hF⟩ := qs_bn_some hF
        refine qs_ci (Wd := qs_W h c) (isC := [0, 1, 2, 3, 4, 5, 6, 7, 8, 9, 10, 11, 12, 13, 14, 15, 16]) (va_runV (own := "QuakeServer$Mover") (C := "QuakeServer$Entities") (As := [.int (x1)]) (rest := []) ⟨hx, hb, hml, hown, hg⟩ (c_E_isThere l dC dI h c H.size g (x1) r5 u6 hX) (cwV 1 hg (qs_gV t_579 t_188 t_189 t_2 t_190) rfl rfl rfl (by decide +kernel) ⟨Nat.le_of_ble_eq_true rfl, Nat.le_of_ble_eq_true rfl⟩) ⟨qs_blind, va_recv hK hP (ci := 0) (q0 := 1) rfl rfl, fun U hU hW => ⟨rfl, by rw [hU], by rw [hU]; exact hP, va_K.moved hW.alike hK, hD.weaken (fun _ _ _ _ => trivial), hNs.warm hW⟩⟩ rfl rfl hl.1 rfl (lv_room (Nat.le_of_ble_eq_true rfl)) d_V_touchTriggers_27 ⟨Nat.le_of_ble_eq_true rfl, Nat.le_of_ble_eq_true rfl⟩) rfl hP hD hS hA (fun H locs hP hD hS => ?_)
        refine lv_if_eq (tgt := 105) hx hb d_V_touchTriggers_30 (by decide) (fun c7 => ?_) (fun c7 => ?_)
        · have hF := qs_pos c7 hF
          obtain ⟨h8, h9⟩ := qs_ret hF
          exact W.vret hx hb hr (fun t ht hW => ⟨⟨u6, rfl, h9, by rw [ht]; exact hP, va_K.moved hW.alike hK, hD⟩, hS.F ht⟩) hS.2.2 d_V_touchTriggers_105
        · have hF := qs_neg c7 hF
          refine lv_iload_n hx hb d_V_touchTriggers_33 rfl (lv_at hl 2 rfl) ?_
          refine lv_iload_n hx hb d_V_touchTriggers_34 rfl (lv_at hl 1 rfl) ?_
          refine lv_icmp_eq (tgt := 99) hx hb d_V_touchTriggers_35 (by decide) (fun c8 => ?_) (fun c8 => ?_)
          · have hF := qs_pos c8 hF
            exact kb_99 _ ih u6 (x1) (x2) H locs ls hP hD hS (lv_sub hl [0, 1, 2] rfl) hF
          · have hF := qs_neg c8 hF
            refine lv_aload_n hx hb d_V_touchTriggers_38 rfl (lv_at hl 0 rfl) ?_
            refine va_get (D := (dC, dI)) (ci := 4) (v := .ref (h 1)) (C := R_V) (T := T_V) (N := 6) hx hb hg in_V hown hK hP 5 rfl rfl 0 (by decide) (hg _ t_123) (fun _ h9 => h9) rfl d_V_touchTriggers_39 ?_
            refine lv_iload_n hx hb d_V_touchTriggers_42 rfl (lv_at hl 2 rfl) ?_
            refine lv_iconst (v := 5) hx hb d_V_touchTriggers_43 (by decide) ?_
            obtain ⟨r9, u10, hX, hF⟩ := qs_bn_some hF
            refine qs_ci (Wd := qs_W h c) (isC := [0, 1, 2, 3, 4, 5, 6, 7, 8, 9, 10, 11, 12, 13, 14, 15, 16]) (va_runV (own := "QuakeServer$Mover") (C := "QuakeServer$Entities") (As := [.int (x2), .int (5)]) (rest := []) ⟨hx, hb, hml, hown, hg⟩ (c_E_wholeField l dC dI h c H.size u6 (x2) (5) r9 u10 hX) (cwV 2 hg (qs_gV t_508 t_509 t_510 t_2 t_511) rfl rfl rfl (by decide +kernel) ⟨Nat.le_of_ble_eq_true rfl, Nat.le_of_ble_eq_true rfl⟩) ⟨qs_blind, va_recv hK hP (ci := 0) (q0 := 1) rfl rfl, fun U hU hW => ⟨rfl, by rw [hU], by rw [hU]; exact hP, va_K.moved hW.alike hK, hD.weaken (fun _ _ _ _ => trivial), hNs.warm hW⟩⟩ rfl rfl hl.1 rfl (lv_room (Nat.le_of_ble_eq_true rfl)) d_V_touchTriggers_44 ⟨Nat.le_of_ble_eq_true rfl, Nat.le_of_ble_eq_true rfl⟩) rfl hP hD hS hA (fun H locs hP hD hS => ?_)
            refine lv_iconst (v := 1) hx hb d_V_touchTriggers_47 (by decide) ?_
            refine lv_icmp_ne (tgt := 99) hx hb d_V_touchTriggers_48 (by decide) (fun c11 => ?_) (fun c11 => ?_)
            · have hF := qs_neg c11 hF
              exact kb_99 _ ih u10 (x1) (x2) H locs ls hP hD hS (lv_sub hl [0, 1, 2] rfl) hF
            · have hF := qs_pos c11 hF
              refine lv_aload_n hx hb d_V_touchTriggers_51 rfl (lv_at hl 0 rfl) ?_
              refine va_get (D := (dC, dI)) (ci := 4) (v := .ref (h 1)) (C := R_V) (T := T_V) (N := 6) hx hb hg in_V hown hK hP 5 rfl rfl 0 (by decide) (hg _ t_123) (fun _ h9 => h9) rfl d_V_touchTriggers_52 ?_
              refine lv_iload_n hx hb d_V_touchTriggers_55 rfl (lv_at hl 2 rfl) ?_
              refine lv_iload_n hx hb d_V_touchTriggers_56 rfl (lv_at hl 1 rfl) ?_
              refine lv_iconst (v := 0) hx hb d_V_touchTriggers_57 (by decide) ?_
              obtain ⟨r12, u13, hX, hF⟩ := qs_bn_some hF
              refine qs_ci (Wd := qs_W h c) (isC := [0, 1, 2, 3, 4, 5, 6, 7, 8, 9, 10, 11, 12, 13, 14, 15, 16]) (va_runV (own := "QuakeServer$Mover") (C := "QuakeServer$Entities") (As := [.int (x2), .int (x1), .int (0)]) (rest := []) ⟨hx, hb, hml, hown, hg⟩ (c_E_boxesOverlap l dC dI h c H.size u10 (x2) (x1) (0) r12 u13 hX) (cwV 3 hg (qs_gV t_573 t_574 t_575 t_2 t_576) rfl rfl rfl (by decide +kernel) ⟨Nat.le_of_ble_eq_true rfl, Nat.le_of_ble_eq_true rfl⟩) ⟨qs_blind, va_recv hK hP (ci := 0) (q0 := 1) rfl rfl, fun U hU hW => ⟨rfl, by rw [hU], by rw [hU]; exact hP, va_K.moved hW.alike hK, hD.weaken (fun _ _ _ _ => trivial), hNs.warm hW⟩⟩ rfl rfl hl.1 rfl (lv_room (Nat.le_of_ble_eq_true rfl)) d_V_touchTriggers_58 ⟨Nat.le_of_ble_eq_true rfl, Nat.le_of_ble_eq_true rfl⟩) rfl hP hD hS hA (fun H locs hP hD hS => ?_)
              refine lv_if_eq (tgt := 99) hx hb d_V_touchTriggers_61 (by decide) (fun c14 => ?_) (fun c14 => ?_)
              · have hF := qs_pos c14 hF
                exact kb_99 _ ih u13 (x1) (x2) H locs ls hP hD hS (lv_sub hl [0, 1, 2] rfl) hF
              · have hF := qs_neg c14 hF
                refine lv_aload_n hx hb d_V_touchTriggers_64 rfl (lv_at hl 0 rfl) ?_
                refine va_get (D := (dC, dI)) (ci := 4) (v := .ref (h 1)) (C := R_V) (T := T_V) (N := 6) hx hb hg in_V hown hK hP 5 rfl rfl 0 (by decide) (hg _ t_123) (fun _ h9 => h9) rfl d_V_touchTriggers_65 ?_
                refine lv_iload_n hx hb d_V_touchTriggers_68 rfl (lv_at hl 2 rfl) ?_
                refine lv_iload_n hx hb d_V_touchTriggers_69 rfl (lv_at hl 1 rfl) ?_
                refine lv_iconst (v := 1) hx hb d_V_touchTriggers_70 (by decide) ?_
                obtain ⟨r15, u16, hX, hF⟩ := qs_bn_some hF
                refine qs_ci (Wd := qs_W h c) (isC := [0, 1, 2, 3, 4, 5, 6, 7, 8, 9, 10, 11, 12, 13, 14, 15, 16]) (va_runV (own := "QuakeServer$Mover") (C := "QuakeServer$Entities") (As := [.int (x2), .int (x1), .int (1)]) (rest := []) ⟨hx, hb, hml, hown, hg⟩ (c_E_boxesOverlap l dC dI h c H.size u13 (x2) (x1) (1) r15 u16 hX) (cwV 3 hg (qs_gV t_573 t_574 t_575 t_2 t_576) rfl rfl rfl (by decide +kernel) ⟨Nat.le_of_ble_eq_true rfl, Nat.le_of_ble_eq_true rfl⟩) ⟨qs_blind, va_recv hK hP (ci := 0) (q0 := 1) rfl rfl, fun U hU hW => ⟨rfl, by rw [hU], by rw [hU]; exact hP, va_K.moved hW.alike hK, hD.weaken (fun _ _ _ _ => trivial), hNs.warm hW⟩⟩ rfl rfl hl.1 rfl (lv_room (Nat.le_of_ble_eq_true rfl)) d_V_touchTriggers_71 ⟨Nat.le_of_ble_eq_true rfl, Nat.le_of_ble_eq_true rfl⟩) rfl hP hD hS hA (fun H locs hP hD hS => ?_)
                refine lv_if_eq (tgt := 99) hx hb d_V_touchTriggers_74 (by decide) (fun c17 => ?_) (fun c17 => ?_)
                · have hF := qs_pos c17 hF
                  exact kb_99 _ ih u16 (x1) (x2) H locs ls hP hD hS (lv_sub hl [0, 1, 2] rfl) hF
                · have hF := qs_neg c17 hF
                  refine lv_aload_n hx hb d_V_touchTriggers_77 rfl (lv_at hl 0 rfl) ?_
                  refine va_get (D := (dC, dI)) (ci := 4) (v := .ref (h 4)) (C := R_V) (T := T_V) (N := 6) hx hb hg in_V hown hK hP 5 rfl rfl 2 (by decide) (hg _ t_125) (fun _ h9 => h9) rfl d_V_touchTriggers_78 ?_
                  refine lv_aload_n hx hb d_V_touchTriggers_81 rfl (lv_at hl 0 rfl) ?_
                  refine va_get (D := (dC, dI)) (ci := 4) (v := .ref (h 1)) (C := R_V) (T := T_V) (N := 6) hx hb hg in_V hown hK hP 5 rfl rfl 0 (by decide) (hg _ t_123) (fun _ h9 => h9) rfl d_V_touchTriggers_82 ?_
                  refine lv_iload_n hx hb d_V_touchTriggers_85 rfl (lv_at hl 2 rfl) ?_
                  refine lv_bipush (v := 8) hx hb d_V_touchTriggers_86 (by decide) ?_
                  obtain ⟨r18, u19, hX, hF⟩ := qs_bn_some hF
                  refine qs_ci (Wd := qs_W h c) (isC := [0, 1, 2, 3, 4, 5, 6, 7, 8, 9, 10, 11, 12, 13, 14, 15, 16]) (va_runV (own := "QuakeServer$Mover") (C := "QuakeServer$Entities") (As := [.int (x2), .int (8)]) (rest := [.ref (h 4)]) ⟨hx, hb, hml, hown, hg⟩ (c_E_wholeField l dC dI h c H.size u16 (x2) (8) r18 u19 hX) (cwV 2 hg (qs_gV t_508 t_509 t_510 t_2 t_511) rfl rfl rfl (by decide +kernel) ⟨Nat.le_of_ble_eq_true rfl, Nat.le_of_ble_eq_true rfl⟩) ⟨qs_blind, va_recv hK hP (ci := 0) (q0 := 1) rfl rfl, fun U hU hW => ⟨rfl, by rw [hU], by rw [hU]; exact hP, va_K.moved hW.alike hK, hD.weaken (fun _ _ _ _ => trivial), hNs.warm hW⟩⟩ rfl rfl hl.1 rfl (lv_room (Nat.le_of_ble_eq_true rfl)) d_V_touchTriggers_88 ⟨Nat.le_of_ble_eq_true rfl, Nat.le_of_ble_eq_true rfl⟩) rfl hP hD hS hA (fun H locs hP hD hS => ?_)
                  refine lv_iconst (v := 1) hx hb d_V_touchTriggers_91 (by decide) ?_
                  refine lv_isub hx hb d_V_touchTriggers_92 ?_
                  refine lv_iload_n hx hb d_V_touchTriggers_93 rfl (lv_at hl 2 rfl) ?_
                  refine lv_iload_n hx hb d_V_touchTriggers_94 rfl (lv_at hl 1 rfl) ?_
                  obtain ⟨r20, u21, hX, hF⟩ := qs_bn_some hF
                  refine qs_ci (Wd := qs_W h c) (isC := [0, 1, 2, 3, 4, 5, 6, 7, 8, 9, 10, 11, 12, 13, 14, 15, 16]) (va_runV (own := "QuakeServer$Mover") (C := "QuakeServer$Machine") (As := [.int (r18 - 1), .int (x2), .int (x1)]) (rest := []) ⟨hx, hb, hml, hown, hg⟩ (c_M_start l dC dI h c H.size u19 (r18 - 1) (x2) (x1) r20 u21 hX) (cwV 3 hg (qs_gV t_578 t_438 t_439 t_5 t_440) rfl rfl rfl (by decide +kernel) ⟨Nat.le_of_ble_eq_true rfl, Nat.le_of_ble_eq_true rfl⟩) ⟨qs_blind, va_recv hK hP (ci := 3) (q0 := 4) rfl rfl, fun U hU hW => ⟨rfl, by rw [hU], by rw [hU]; exact hP, va_K.moved hW.alike hK, hD.weaken (fun _ _ _ _ => trivial), hNs.warm hW⟩⟩ rfl rfl hl.1 rfl (lv_room (Nat.le_of_ble_eq_true rfl)) d_V_touchTriggers_95 ⟨Nat.le_of_ble_eq_true rfl, Nat.le_of_ble_eq_true rfl⟩) rfl hP hD hS hA (fun H locs hP hD hS => ?_)
                  refine lv_pop hx hb d_V_touchTriggers_98 rfl ?_
                  exact kb_99 _ ih u21 (x1) (x2) H locs ls hP hD hS (lv_sub hl [0, 1, 2] rfl) hF
  have hl := lv_entry ([.ref (h 5), .int a1] : List Value) (n := 3) (Nat.le_of_ble_eq_true rfl)
  rw [lg_entry_eq]
  generalize (lg_sl ([.ref (h 5), .int a1] : List Value) ++ List.replicate (3 - (lg_sl ([.ref (h 5), .int a1] : List Value)).length) Slot.unset).toArray = ls at hl ⊢
  have hl : lv_has ls 3 [(0, .ref (h 5)), (1, .int (a1))] := hl
  unfold f_V_touchTriggers at hF
  obtain ⟨H, hHe⟩ : ∃ H, H = s.heap := ⟨_, rfl⟩
  obtain ⟨locs, hLe⟩ : ∃ L : List Loc, L = [] := ⟨_, rfl⟩
  rw [← hHe] at hP ⊢
  rw [← hLe]
  have hS : va_S A s.heap H locs := by rw [hHe, hLe]; exact hS
  refine lv_aload_n hx hb d_V_touchTriggers_0 rfl (lv_at hl 0 rfl) ?_
  refine va_get (D := (dC, dI)) (ci := 4) (v := .ref (h 1)) (C := R_V) (T := T_V) (N := 6) hx hb hg in_V hown hK hP 5 rfl rfl 0 (by decide) (hg _ t_123) (fun _ h9 => h9) rfl d_V_touchTriggers_1 ?_
  refine lv_iload_n hx hb d_V_touchTriggers_4 rfl (lv_at hl 1 rfl) ?_
  refine lv_iconst (v := 5) hx hb d_V_touchTriggers_5 (by decide) ?_
  obtain ⟨r1, u2, hX, hF⟩ := qs_bn_some hF
  refine qs_ci (Wd := qs_W h c) (isC := [0, 1, 2, 3, 4, 5, 6, 7, 8, 9, 10, 11, 12, 13, 14, 15, 16]) (va_runV (own := "QuakeServer$Mover") (C := "QuakeServer$Entities") (As := [.int (a1), .int (5)]) (rest := []) ⟨hx, hb, hml, hown, hg⟩ (c_E_wholeField l dC dI h c H.size g (a1) (5) r1 u2 hX) (cwV 2 hg (qs_gV t_508 t_509 t_510 t_2 t_511) rfl rfl rfl (by decide +kernel) ⟨Nat.le_of_ble_eq_true rfl, Nat.le_of_ble_eq_true rfl⟩) ⟨qs_blind, va_recv hK hP (ci := 0) (q0 := 1) rfl rfl, fun U hU hW => ⟨rfl, by rw [hU], by rw [hU]; exact hP, va_K.moved hW.alike hK, hD.weaken (fun _ _ _ _ => trivial), hNs.warm hW⟩⟩ rfl rfl hl.1 rfl (lv_room (Nat.le_of_ble_eq_true rfl)) d_V_touchTriggers_6 ⟨Nat.le_of_ble_eq_true rfl, Nat.le_of_ble_eq_true rfl⟩) rfl hP hD hS hA (fun H locs hP hD hS => ?_)
  refine lv_iconst (v := 1) hx hb d_V_touchTriggers_9 (by decide) ?_
  refine lv_icmp_ne (tgt := 14) hx hb d_V_touchTriggers_10 (by decide) (fun c3 => ?_) (fun c3 => ?_)
  · have hF := qs_neg c3 hF
    refine lv_iconst (v := 0) hx hb d_V_touchTriggers_14 (by decide) ?_
    refine lv_istore_n (lv' := [(2, .int (0)), (0, .ref (h 5)), (1, .int (a1))]) hx hb d_V_touchTriggers_15 rfl hl (by decide) rfl (fun ls hl => ?_)
    exact kb_16 200 u2 (a1) (0) H locs ls hP hD hS (lv_sub hl [1, 2, 0] rfl) hF
  · have hF := qs_pos c3 hF
    obtain ⟨h8, h9⟩ := qs_ret hF
    exact W.vret hx hb hr (fun t ht hW => ⟨⟨u2, rfl, h9, by rw [ht]; exact hP, va_K.moved hW.alike hK, hD⟩, hS.F ht⟩) hS.2.2 d_V_touchTriggers_13

theorem d_V_think_0 : decode b_V_think 0 = .ok (.aload_n 0, 1) := by decide +kernel
theorem d_V_think_1 : decode b_V_think 1 = .ok (.getfield 9, 3) := by decide +kernel
theorem d_V_think_4 : decode b_V_think 4 = .ok (.iload_n 1, 1) := by decide +kernel
theorem d_V_think_5 : decode b_V_think 5 = .ok (.bipush 10, 2) := by decide +kernel
theorem d_V_think_7 : decode b_V_think 7 = .ok (.invokevirtual 29, 3) := by decide +kernel
theorem d_V_think_10 : decode b_V_think 10 = .ok (.istore_n 2, 1) := by decide +kernel
theorem d_V_think_11 : decode b_V_think 11 = .ok (.iload_n 2, 1) := by decide +kernel
theorem d_V_think_12 : decode b_V_think 12 = .ok (.ifCond .le 47, 3) := by decide +kernel
theorem d_V_think_15 : decode b_V_think 15 = .ok (.iload_n 2, 1) := by decide +kernel
theorem d_V_think_16 : decode b_V_think 16 = .ok (.aload_n 0, 1) := by decide +kernel
theorem d_V_think_17 : decode b_V_think 17 = .ok (.getfield 19, 3) := by decide +kernel
theorem d_V_think_20 : decode b_V_think 20 = .ok (.getfield 114, 3) := by decide +kernel
theorem d_V_think_23 : decode b_V_think 23 = .ok (.if_icmp .gt 36, 3) := by decide +kernel
theorem d_V_think_26 : decode b_V_think 26 = .ok (.aload_n 0, 1) := by decide +kernel
theorem d_V_think_27 : decode b_V_think 27 = .ok (.getfield 9, 3) := by decide +kernel
theorem d_V_think_30 : decode b_V_think 30 = .ok (.iload_n 1, 1) := by decide +kernel
theorem d_V_think_31 : decode b_V_think 31 = .ok (.bipush 10, 2) := by decide +kernel
theorem d_V_think_33 : decode b_V_think 33 = .ok (.iconst 0, 1) := by decide +kernel
theorem d_V_think_34 : decode b_V_think 34 = .ok (.invokevirtual 36, 3) := by decide +kernel
theorem d_V_think_37 : decode b_V_think 37 = .ok (.aload_n 0, 1) := by decide +kernel
theorem d_V_think_38 : decode b_V_think 38 = .ok (.getfield 19, 3) := by decide +kernel
theorem d_V_think_41 : decode b_V_think 41 = .ok (.aload_n 0, 1) := by decide +kernel
theorem d_V_think_42 : decode b_V_think 42 = .ok (.getfield 9, 3) := by decide +kernel
theorem d_V_think_45 : decode b_V_think 45 = .ok (.iload_n 1, 1) := by decide +kernel
theorem d_V_think_46 : decode b_V_think 46 = .ok (.bipush 9, 2) := by decide +kernel
theorem d_V_think_48 : decode b_V_think 48 = .ok (.invokevirtual 23, 3) := by decide +kernel
theorem d_V_think_51 : decode b_V_think 51 = .ok (.iconst 1, 1) := by decide +kernel
theorem d_V_think_52 : decode b_V_think 52 = .ok (.isub, 1) := by decide +kernel
theorem d_V_think_53 : decode b_V_think 53 = .ok (.iload_n 1, 1) := by decide +kernel
theorem d_V_think_54 : decode b_V_think 54 = .ok (.iconst (-1), 1) := by decide +kernel
theorem d_V_think_55 : decode b_V_think 55 = .ok (.invokevirtual 58, 3) := by decide +kernel
theorem d_V_think_58 : decode b_V_think 58 = .ok (.pop, 1) := by decide +kernel
theorem d_V_think_59 : decode b_V_think 59 = .ok (.return_, 1) := by decide +kernel
def f_V_think (g : Sg) (a1 : Int32) : Option (Unit × Sg) := (qs_bn (f_E_field g (a1) (10)) fun r1 u2 => (if r1 ≤ 0 then (some ((), u2)) else (if (u2 23 0) < r1 then (some ((), u2)) else (qs_bn (f_E_put u2 (a1) (10) (0)) fun _ u6 => (qs_bn (f_E_wholeField u6 (a1) (9)) fun r7 u8 => (qs_bn (f_M_start u8 (r7 - 1) (a1) ((-1))) fun r9 u10 => (some ((), u10))))))))
set_option maxHeartbeats 4000000 in
set_option maxRecDepth 100000 in
theorem c_V_think (l : Launch) (dC : Nat → ClassId) (dI : Nat → Nat → Nat) (h : Nat → Nat) (c : Nat → ClassId) (sz : Nat) (g : Sg) (a1 : Int32) (u0 : Sg) (hF : f_V_think g a1 = some ((), u0)) : Met l y_V_think (qs_ws y_V_think b_V_think 3 none) ({ frames := 5, cells := 0, slots := 0, locals := 121 } : Room) (va_Pc ([.ref (h 5), .int a1] : List Value) (fun U => U.heap.size = sz ∧ va_P (dC, dI) vwCl (qs_W h c g) U.heap ∧ va_K (dC, dI) vwCl (qs_T c) U ∧ va_D (fun _ => True) (qs_W h c g) ∧ qs_N U)) (va_Qv (fun (u : Sg) => u = u0) (qs_at dC dI h c (va_A (qs_W h c g) sz)) (va_A (qs_W h c g) sz)) 0 0 (va_A (qs_W h c g) sz) := by
  refine Met.ofW (cc := b_V_think) (maxL := 3) (ret := none) (by decide +kernel) rfl ?_
  intro p e s m args below meth cd s₁ B hml hv
  obtain ⟨rfl, hsz, hP, hK, hD0, hNs⟩ := hv
  have hx := B.exec
  have hb := B.bytes
  have hr := B.returns
  have hts := atoms_spec (ws := (qs_ws y_V_think b_V_think 3 none)) B.pre
  have hg : ∀ w ∈ qs_gt, w.before _ s = true := fun w h => hts w (List.mem_cons_of_mem _ h)
  have hown : s.vm.findClass R_V = some m.cls := findClass_of_methodNamed B.named
  have hlocks := B.notSynchronized
  subst hsz
  have hD := hD0.self (sz := s.heap.size)
  generalize hAe : va_A (qs_W h c g) s.heap.size = A at hD ⊢
  have hA : ∀ q : Nat, s.heap.size ≤ q → A q := fun q h => by rw [← hAe]; exact Or.inr h
  have hS : va_S A s.heap s.heap [] := va_S.rf
  have hl := lv_entry ([.ref (h 5), .int a1] : List Value) (n := 3) (Nat.le_of_ble_eq_true rfl)
  rw [lg_entry_eq]
  generalize (lg_sl ([.ref (h 5), .int a1] : List Value) ++ List.replicate (3 - (lg_sl ([.ref (h 5), .int a1] : List Value)).length) Slot.unset).toArray = ls at hl ⊢
  have hl : lv_has ls 3 [(0, .ref (h 5)), (1, .int (a1))] := hl
  unfold f_V_think at hF
  obtain ⟨H, hHe⟩ : ∃ H, H = s.heap := ⟨_, rfl⟩
  obtain ⟨locs, hLe⟩ : ∃ L : List Loc, L = [] := ⟨_, rfl⟩
  rw [← hHe] at hP ⊢
  rw [← hLe]
  have hS : va_S A s.heap H locs := by rw [hHe, hLe]; exact hS
  refine lv_aload_n hx hb d_V_think_0 rfl (lv_at hl 0 rfl) ?_
  refine va_get (D := (dC, dI)) (ci := 4) (v := .ref (h 1)) (C := R_V) (T := T_V) (N := 6) hx hb hg in_V hown hK hP 5 rfl rfl 0 (by decide) (hg _ t_123) (fun _ h9 => h9) rfl d_V_think_1 ?_
  refine lv_iload_n hx hb d_V_think_4 rfl (lv_at hl 1 rfl) ?_
  refine lv_bipush (v := 10) hx hb d_V_think_5 (by decide) ?_
  obtain ⟨r1, u2, hX, hF⟩ := qs_bn_some hF
  refine qs_ci (Wd := qs_W h c) (isC := [0, 1, 2, 3, 4, 5, 6, 7, 8, 9, 10, 11, 12, 13, 14, 15, 16]) (va_runV (own := "QuakeServer$Mover") (C := "QuakeServer$Entities") (As := [.int (a1), .int (10)]) (rest := []) ⟨hx, hb, hml, hown, hg⟩ (c_E_field l dC dI h c H.size g (a1) (10) r1 u2 hX) (cwV 2 hg (qs_gV t_514 t_192 t_193 t_2 t_194) rfl rfl rfl (by decide +kernel) ⟨Nat.le_of_ble_eq_true rfl, Nat.le_of_ble_eq_true rfl⟩) ⟨qs_blind, va_recv hK hP (ci := 0) (q0 := 1) rfl rfl, fun U hU hW => ⟨rfl, by rw [hU], by rw [hU]; exact hP, va_K.moved hW.alike hK, hD.weaken (fun _ _ _ _ => trivial), hNs.warm hW⟩⟩ rfl rfl hl.1 rfl (lv_room (Nat.le_of_ble_eq_true rfl)) d_V_think_7 ⟨Nat.le_of_ble_eq_true rfl, Nat.le_of_ble_eq_true rfl⟩) rfl hP hD hS hA (fun H locs hP hD hS => ?_)
  refine lv_istore_n (lv' := [(2, .int (r1)), (0, .ref (h 5)), (1, .int (a1))]) hx hb d_V_think_10 rfl hl (by decide) rfl (fun ls hl => ?_)
  refine lv_iload_n hx hb d_V_think_11 rfl (lv_at hl 0 rfl) ?_
  refine lv_if_le (tgt := 59) hx hb d_V_think_12 (by decide) (fun c3 => ?_) (fun c3 => ?_)
  · have hF := qs_pos c3 hF
    obtain ⟨h8, h9⟩ := qs_ret hF
    exact W.vret hx hb hr (fun t ht hW => ⟨⟨u2, rfl, h9, by rw [ht]; exact hP, va_K.moved hW.alike hK, hD⟩, hS.F ht⟩) hS.2.2 d_V_think_59
  · have hF := qs_neg c3 hF
    refine lv_iload_n hx hb d_V_think_15 rfl (lv_at hl 0 rfl) ?_
    refine lv_aload_n hx hb d_V_think_16 rfl (lv_at hl 1 rfl) ?_
    refine va_get (D := (dC, dI)) (ci := 4) (v := .ref (h 4)) (C := R_V) (T := T_V) (N := 6) hx hb hg in_V hown hK hP 5 rfl rfl 2 (by decide) (hg _ t_125) (fun _ h9 => h9) rfl d_V_think_17 ?_
    refine va_getN (D := (dC, dI)) (ci := 3) (v := .int (u2 23 0)) (C := R_M) (T := T_M) (N := 11) hx hb hg in_M hown hK hP 4 rfl rfl 7 (by decide) (va_Nw.use rfl (nF_4 hNs)) (fun _ h9 => h9) rfl d_V_think_20 ?_
    refine lv_icmp_gt (tgt := 59) hx hb d_V_think_23 (by decide) (fun c4 => ?_) (fun c4 => ?_)
    · have hF := qs_pos c4 hF
      obtain ⟨h8, h9⟩ := qs_ret hF
      exact W.vret hx hb hr (fun t ht hW => ⟨⟨u2, rfl, h9, by rw [ht]; exact hP, va_K.moved hW.alike hK, hD⟩, hS.F ht⟩) hS.2.2 d_V_think_59
    · have hF := qs_neg c4 hF
      refine lv_aload_n hx hb d_V_think_26 rfl (lv_at hl 1 rfl) ?_
      refine va_get (D := (dC, dI)) (ci := 4) (v := .ref (h 1)) (C := R_V) (T := T_V) (N := 6) hx hb hg in_V hown hK hP 5 rfl rfl 0 (by decide) (hg _ t_123) (fun _ h9 => h9) rfl d_V_think_27 ?_
      refine lv_iload_n hx hb d_V_think_30 rfl (lv_at hl 2 rfl) ?_
      refine lv_bipush (v := 10) hx hb d_V_think_31 (by decide) ?_
      refine lv_iconst (v := 0) hx hb d_V_think_33 (by decide) ?_
      obtain ⟨r5, u6, hX, hF⟩ := qs_bn_some hF
      refine qs_cv (Wd := qs_W h c) (isC := [0, 1, 2, 3, 4, 5, 6, 7, 8, 9, 10, 11, 12, 13, 14, 15, 16]) (va_runV (own := "QuakeServer$Mover") (C := "QuakeServer$Entities") (As := [.int (a1), .int (10), .int (0)]) (rest := []) ⟨hx, hb, hml, hown, hg⟩ (c_E_put l dC dI h c H.size u2 (a1) (10) (0)  u6 hX) (cwV 3 hg (qs_gV t_516 t_355 t_356 t_2 t_357) rfl rfl rfl (by decide +kernel) ⟨Nat.le_of_ble_eq_true rfl, Nat.le_of_ble_eq_true rfl⟩) ⟨qs_blind, va_recv hK hP (ci := 0) (q0 := 1) rfl rfl, fun U hU hW => ⟨rfl, by rw [hU], by rw [hU]; exact hP, va_K.moved hW.alike hK, hD.weaken (fun _ _ _ _ => trivial), hNs.warm hW⟩⟩ rfl rfl hl.1 rfl (lv_room (Nat.le_of_ble_eq_true rfl)) d_V_think_34 ⟨Nat.le_of_ble_eq_true rfl, Nat.le_of_ble_eq_true rfl⟩) rfl hP hD hS hA (fun H locs hP hD hS => ?_)
      refine lv_aload_n hx hb d_V_think_37 rfl (lv_at hl 1 rfl) ?_
      refine va_get (D := (dC, dI)) (ci := 4) (v := .ref (h 4)) (C := R_V) (T := T_V) (N := 6) hx hb hg in_V hown hK hP 5 rfl rfl 2 (by decide) (hg _ t_125) (fun _ h9 => h9) rfl d_V_think_38 ?_
      refine lv_aload_n hx hb d_V_think_41 rfl (lv_at hl 1 rfl) ?_
      refine va_get (D := (dC, dI)) (ci := 4) (v := .ref (h 1)) (C := R_V) (T := T_V) (N := 6) hx hb hg in_V hown hK hP 5 rfl rfl 0 (by decide) (hg _ t_123) (fun _ h9 => h9) rfl d_V_think_42 ?_
      refine lv_iload_n hx hb d_V_think_45 rfl (lv_at hl 2 rfl) ?_
      refine lv_bipush (v := 9) hx hb d_V_think_46 (by decide) ?_
      obtain ⟨r7, u8, hX, hF⟩ := qs_bn_some hF
      refine qs_ci (Wd := qs_W h c) (isC := [0, 1, 2, 3, 4, 5, 6, 7, 8, 9, 10, 11, 12, 13, 14, 15, 16]) (va_runV (own := "QuakeServer$Mover") (C := "QuakeServer$Entities") (As := [.int (a1), .int (9)]) (rest := [.ref (h 4)]) ⟨hx, hb, hml, hown, hg⟩ (c_E_wholeField l dC dI h c H.size u6 (a1) (9) r7 u8 hX) (cwV 2 hg (qs_gV t_508 t_509 t_510 t_2 t_511) rfl rfl rfl (by decide +kernel) ⟨Nat.le_of_ble_eq_true rfl, Nat.le_of_ble_eq_true rfl⟩) ⟨qs_blind, va_recv hK hP (ci := 0) (q0 := 1) rfl rfl, fun U hU hW => ⟨rfl, by rw [hU], by rw [hU]; exact hP, va_K.moved hW.alike hK, hD.weaken (fun _ _ _ _ => trivial), hNs.warm hW⟩⟩ rfl rfl hl.1 rfl (lv_room (Nat.le_of_ble_eq_true rfl)) d_V_think_48 ⟨Nat.le_of_ble_eq_true rfl, Nat.le_of_ble_eq_true rfl⟩) rfl hP hD hS hA (fun H locs hP hD hS => ?_)
      refine lv_iconst (v := 1) hx hb d_V_think_51 (by decide) ?_
      refine lv_isub hx hb d_V_think_52 ?_
      refine lv_iload_n hx hb d_V_think_53 rfl (lv_at hl 2 rfl) ?_
      refine lv_iconst (v := (-1)) hx hb d_V_think_54 (by decide) ?_
      obtain ⟨r9, u10, hX, hF⟩ := qs_bn_some hF
      refine qs_ci (Wd := qs_W h c) (isC := [0, 1, 2, 3, 4, 5, 6, 7, 8, 9, 10, 11, 12, 13, 14, 15, 16]) (va_runV (own := "QuakeServer$Mover") (C := "QuakeServer$Machine") (As := [.int (r7 - 1), .int (a1), .int ((-1))]) (rest := []) ⟨hx, hb, hml, hown, hg⟩ (c_M_start l dC dI h c H.size u8 (r7 - 1) (a1) ((-1)) r9 u10 hX) (cwV 3 hg (qs_gV t_578 t_438 t_439 t_5 t_440) rfl rfl rfl (by decide +kernel) ⟨Nat.le_of_ble_eq_true rfl, Nat.le_of_ble_eq_true rfl⟩) ⟨qs_blind, va_recv hK hP (ci := 3) (q0 := 4) rfl rfl, fun U hU hW => ⟨rfl, by rw [hU], by rw [hU]; exact hP, va_K.moved hW.alike hK, hD.weaken (fun _ _ _ _ => trivial), hNs.warm hW⟩⟩ rfl rfl hl.1 rfl (lv_room (Nat.le_of_ble_eq_true rfl)) d_V_think_55 ⟨Nat.le_of_ble_eq_true rfl, Nat.le_of_ble_eq_true rfl⟩) rfl hP hD hS hA (fun H locs hP hD hS => ?_)
      refine lv_pop hx hb d_V_think_58 rfl ?_
      obtain ⟨h8, h9⟩ := qs_ret hF
      exact W.vret hx hb hr (fun t ht hW => ⟨⟨u10, rfl, h9, by rw [ht]; exact hP, va_K.moved hW.alike hK, hD⟩, hS.F ht⟩) hS.2.2 d_V_think_59

theorem d_V_takeTurn_0 : decode b_V_takeTurn 0 = .ok (.aload_n 0, 1) := by decide +kernel
theorem d_V_takeTurn_1 : decode b_V_takeTurn 1 = .ok (.getfield 9, 3) := by decide +kernel
theorem d_V_takeTurn_4 : decode b_V_takeTurn 4 = .ok (.iload_n 1, 1) := by decide +kernel
theorem d_V_takeTurn_5 : decode b_V_takeTurn 5 = .ok (.bipush 6, 2) := by decide +kernel
theorem d_V_takeTurn_7 : decode b_V_takeTurn 7 = .ok (.invokevirtual 23, 3) := by decide +kernel
theorem d_V_takeTurn_10 : decode b_V_takeTurn 10 = .ok (.istore_n 2, 1) := by decide +kernel
theorem d_V_takeTurn_11 : decode b_V_takeTurn 11 = .ok (.iload_n 2, 1) := by decide +kernel
theorem d_V_takeTurn_12 : decode b_V_takeTurn 12 = .ok (.iconst 2, 1) := by decide +kernel
theorem d_V_takeTurn_13 : decode b_V_takeTurn 13 = .ok (.if_icmp .eq 8, 3) := by decide +kernel
theorem d_V_takeTurn_16 : decode b_V_takeTurn 16 = .ok (.iload_n 2, 1) := by decide +kernel
theorem d_V_takeTurn_17 : decode b_V_takeTurn 17 = .ok (.iconst 3, 1) := by decide +kernel
theorem d_V_takeTurn_18 : decode b_V_takeTurn 18 = .ok (.if_icmp .ne 28, 3) := by decide +kernel
theorem d_V_takeTurn_21 : decode b_V_takeTurn 21 = .ok (.aload_n 0, 1) := by decide +kernel
theorem d_V_takeTurn_22 : decode b_V_takeTurn 22 = .ok (.getfield 9, 3) := by decide +kernel
theorem d_V_takeTurn_25 : decode b_V_takeTurn 25 = .ok (.iload_n 1, 1) := by decide +kernel
theorem d_V_takeTurn_26 : decode b_V_takeTurn 26 = .ok (.iconst 3, 1) := by decide +kernel
theorem d_V_takeTurn_27 : decode b_V_takeTurn 27 = .ok (.aload_n 0, 1) := by decide +kernel
theorem d_V_takeTurn_28 : decode b_V_takeTurn 28 = .ok (.getfield 9, 3) := by decide +kernel
theorem d_V_takeTurn_31 : decode b_V_takeTurn 31 = .ok (.iload_n 1, 1) := by decide +kernel
theorem d_V_takeTurn_32 : decode b_V_takeTurn 32 = .ok (.iconst 3, 1) := by decide +kernel
theorem d_V_takeTurn_33 : decode b_V_takeTurn 33 = .ok (.invokevirtual 29, 3) := by decide +kernel
theorem d_V_takeTurn_36 : decode b_V_takeTurn 36 = .ok (.bipush 64, 2) := by decide +kernel
theorem d_V_takeTurn_38 : decode b_V_takeTurn 38 = .ok (.isub, 1) := by decide +kernel
theorem d_V_takeTurn_39 : decode b_V_takeTurn 39 = .ok (.i2l, 1) := by decide +kernel
theorem d_V_takeTurn_40 : decode b_V_takeTurn 40 = .ok (.invokestatic 32, 3) := by decide +kernel
theorem d_V_takeTurn_43 : decode b_V_takeTurn 43 = .ok (.invokevirtual 36, 3) := by decide +kernel
theorem d_V_takeTurn_46 : decode b_V_takeTurn 46 = .ok (.iload_n 2, 1) := by decide +kernel
theorem d_V_takeTurn_47 : decode b_V_takeTurn 47 = .ok (.iconst 1, 1) := by decide +kernel
theorem d_V_takeTurn_48 : decode b_V_takeTurn 48 = .ok (.if_icmp .eq 13, 3) := by decide +kernel
theorem d_V_takeTurn_51 : decode b_V_takeTurn 51 = .ok (.iload_n 2, 1) := by decide +kernel
theorem d_V_takeTurn_52 : decode b_V_takeTurn 52 = .ok (.iconst 2, 1) := by decide +kernel
theorem d_V_takeTurn_53 : decode b_V_takeTurn 53 = .ok (.if_icmp .eq 8, 3) := by decide +kernel
theorem d_V_takeTurn_56 : decode b_V_takeTurn 56 = .ok (.iload_n 2, 1) := by decide +kernel
theorem d_V_takeTurn_57 : decode b_V_takeTurn 57 = .ok (.iconst 3, 1) := by decide +kernel
theorem d_V_takeTurn_58 : decode b_V_takeTurn 58 = .ok (.if_icmp .ne 20, 3) := by decide +kernel
theorem d_V_takeTurn_61 : decode b_V_takeTurn 61 = .ok (.aload_n 0, 1) := by decide +kernel
theorem d_V_takeTurn_62 : decode b_V_takeTurn 62 = .ok (.iload_n 1, 1) := by decide +kernel
theorem d_V_takeTurn_63 : decode b_V_takeTurn 63 = .ok (.iconst 0, 1) := by decide +kernel
theorem d_V_takeTurn_64 : decode b_V_takeTurn 64 = .ok (.invokevirtual 40, 3) := by decide +kernel
theorem d_V_takeTurn_67 : decode b_V_takeTurn 67 = .ok (.aload_n 0, 1) := by decide +kernel
theorem d_V_takeTurn_68 : decode b_V_takeTurn 68 = .ok (.iload_n 1, 1) := by decide +kernel
theorem d_V_takeTurn_69 : decode b_V_takeTurn 69 = .ok (.iconst 1, 1) := by decide +kernel
theorem d_V_takeTurn_70 : decode b_V_takeTurn 70 = .ok (.invokevirtual 40, 3) := by decide +kernel
theorem d_V_takeTurn_73 : decode b_V_takeTurn 73 = .ok (.aload_n 0, 1) := by decide +kernel
theorem d_V_takeTurn_74 : decode b_V_takeTurn 74 = .ok (.iload_n 1, 1) := by decide +kernel
theorem d_V_takeTurn_75 : decode b_V_takeTurn 75 = .ok (.invokevirtual 44, 3) := by decide +kernel
theorem d_V_takeTurn_78 : decode b_V_takeTurn 78 = .ok (.aload_n 0, 1) := by decide +kernel
theorem d_V_takeTurn_79 : decode b_V_takeTurn 79 = .ok (.iload_n 1, 1) := by decide +kernel
theorem d_V_takeTurn_80 : decode b_V_takeTurn 80 = .ok (.invokevirtual 48, 3) := by decide +kernel
theorem d_V_takeTurn_83 : decode b_V_takeTurn 83 = .ok (.return_, 1) := by decide +kernel
def f_V_takeTurn_78  (g : Sg) (x1 : Int32) : Option (Unit × Sg) := (qs_bn (f_V_think g (x1)) fun _ u20 => (some ((), u20)))
def f_V_takeTurn_61  (g : Sg) (x1 : Int32) : Option (Unit × Sg) := (qs_bn (f_V_travel g (x1) (0)) fun _ u14 => (qs_bn (f_V_travel u14 (x1) (1)) fun _ u16 => (qs_bn (f_V_touchTriggers u16 (x1)) fun _ u18 => (f_V_takeTurn_78 u18 (x1)))))
def f_V_takeTurn_46  (g : Sg) (x1 : Int32) (x2 : Int32) : Option (Unit × Sg) := (if x2 = 1 then (f_V_takeTurn_61 g (x1)) else (if x2 = 2 then (f_V_takeTurn_61 g (x1)) else (if x2 = 3 then (f_V_takeTurn_61 g (x1)) else (f_V_takeTurn_78 g (x1)))))
def f_V_takeTurn_21  (g : Sg) (x1 : Int32) (x2 : Int32) : Option (Unit × Sg) := (qs_bn (f_E_field g (x1) (3)) fun r5 u6 => (qs_pb (f_Q_inRange ((r5 - 64).toInt64)) fun r7 => (qs_bn (f_E_put u6 (x1) (3) (r7)) fun _ u9 => (f_V_takeTurn_46 u9 (x1) (x2)))))
def f_V_takeTurn (g : Sg) (a1 : Int32) : Option (Unit × Sg) := (qs_bn (f_E_wholeField g (a1) (6)) fun r1 u2 => (if r1 = 2 then (f_V_takeTurn_21 u2 (a1) (r1)) else (if r1 = 3 then (f_V_takeTurn_21 u2 (a1) (r1)) else (f_V_takeTurn_46 u2 (a1) (r1)))))
set_option maxHeartbeats 4000000 in
set_option maxRecDepth 100000 in
theorem c_V_takeTurn (l : Launch) (dC : Nat → ClassId) (dI : Nat → Nat → Nat) (h : Nat → Nat) (c : Nat → ClassId) (sz : Nat) (g : Sg) (a1 : Int32) (u0 : Sg) (hF : f_V_takeTurn g a1 = some ((), u0)) : Met l y_V_takeTurn (qs_ws y_V_takeTurn b_V_takeTurn 3 none) ({ frames := 6, cells := 0, slots := 0, locals := 144 } : Room) (va_Pc ([.ref (h 5), .int a1] : List Value) (fun U => U.heap.size = sz ∧ va_P (dC, dI) vwCl (qs_W h c g) U.heap ∧ va_K (dC, dI) vwCl (qs_T c) U ∧ va_D (fun _ => True) (qs_W h c g) ∧ qs_N U)) (va_Qv (fun (u : Sg) => u = u0) (qs_at dC dI h c (va_A (qs_W h c g) sz)) (va_A (qs_W h c g) sz)) 0 0 (va_A (qs_W h c g) sz) := by
  refine Met.ofW (cc := b_V_takeTurn) (maxL := 3) (ret := none) (by decide +kernel) rfl ?_
  intro p e s m args below meth cd s₁ B hml hv
  obtain ⟨rfl, hsz, hP, hK, hD0, hNs⟩ := hv
  have hx := B.exec
  have hb := B.bytes
  have hr := B.returns
  have hts := atoms_spec (ws := (qs_ws y_V_takeTurn b_V_takeTurn 3 none)) B.pre
  have hg : ∀ w ∈ qs_gt, w.before _ s = true := fun w h => hts w (List.mem_cons_of_mem _ h)
  have hown : s.vm.findClass R_V = some m.cls := findClass_of_methodNamed B.named
  have hlocks := B.notSynchronized
  subst hsz
  have hD := hD0.self (sz := s.heap.size)
  generalize hAe : va_A (qs_W h c g) s.heap.size = A at hD ⊢
  have hA : ∀ q : Nat, s.heap.size ≤ q → A q := fun q h => by rw [← hAe]; exact Or.inr h
  have hS : va_S A s.heap s.heap [] := va_S.rf
  have kb_78 : ∀ (g : Sg) (x1 : Int32) (H : Heap) (locs : List Loc) (ls : Array Slot), va_P (dC, dI) vwCl (qs_W h c g) H → va_D A (qs_W h c g) → va_S A s.heap H locs → lv_has ls 3 [(0, .ref (h 5)), (1, .int (x1))] → f_V_takeTurn_78  g x1 = some ((), u0) → W p l e (headSpec (qs_ws y_V_takeTurn b_V_takeTurn 3 none) ({ frames := 6, cells := 0, slots := 0, locals := 144 } : Room)).room s m ([.ref (h 5), .int a1] : List Value).toArray below meth cd H locs 0 0 (MQ below (va_Qv (fun (u : Sg) => u = u0) (qs_at dC dI h c A) A) ([.ref (h 5), .int a1] : List Value).toArray s 0 0 A) (F0 m 78 ls []) := by
    intro g x1 H locs ls hP hD hS hl hF
    unfold f_V_takeTurn_78 at hF
    refine lv_aload_n hx hb d_V_takeTurn_78 rfl (lv_at hl 0 rfl) ?_
    refine lv_iload_n hx hb d_V_takeTurn_79 rfl (lv_at hl 1 rfl) ?_
    obtain ⟨r19, u20, hX, hF⟩ := qs_bn_some hF
    refine qs_cv (Wd := qs_W h c) (isC := [0, 1, 2, 3, 4, 5, 6, 7, 8, 9, 10, 11, 12, 13, 14, 15, 16]) (va_runV (own := "QuakeServer$Mover") (C := "QuakeServer$Mover") (As := [.int (x1)]) (rest := []) ⟨hx, hb, hml, hown, hg⟩ (c_V_think l dC dI h c H.size g (x1)  u20 hX) (cwV 1 hg (qs_gV t_584 t_586 tp_16 t_6 t_587) rfl rfl rfl (by decide +kernel) ⟨Nat.le_of_ble_eq_true rfl, Nat.le_of_ble_eq_true rfl⟩) ⟨qs_blind, va_recv hK hP (ci := 4) (q0 := 5) rfl rfl, fun U hU hW => ⟨rfl, by rw [hU], by rw [hU]; exact hP, va_K.moved hW.alike hK, hD.weaken (fun _ _ _ _ => trivial), hNs.warm hW⟩⟩ rfl rfl hl.1 rfl (lv_room (Nat.le_of_ble_eq_true rfl)) d_V_takeTurn_80 ⟨Nat.le_of_ble_eq_true rfl, Nat.le_of_ble_eq_true rfl⟩) rfl hP hD hS hA (fun H locs hP hD hS => ?_)
    obtain ⟨h8, h9⟩ := qs_ret hF
    exact W.vret hx hb hr (fun t ht hW => ⟨⟨u20, rfl, h9, by rw [ht]; exact hP, va_K.moved hW.alike hK, hD⟩, hS.F ht⟩) hS.2.2 d_V_takeTurn_83
  have kb_61 : ∀ (g : Sg) (x1 : Int32) (H : Heap) (locs : List Loc) (ls : Array Slot), va_P (dC, dI) vwCl (qs_W h c g) H → va_D A (qs_W h c g) → va_S A s.heap H locs → lv_has ls 3 [(0, .ref (h 5)), (1, .int (x1))] → f_V_takeTurn_61  g x1 = some ((), u0) → W p l e (headSpec (qs_ws y_V_takeTurn b_V_takeTurn 3 none) ({ frames := 6, cells := 0, slots := 0, locals := 144 } : Room)).room s m ([.ref (h 5), .int a1] : List Value).toArray below meth cd H locs 0 0 (MQ below (va_Qv (fun (u : Sg) => u = u0) (qs_at dC dI h c A) A) ([.ref (h 5), .int a1] : List Value).toArray s 0 0 A) (F0 m 61 ls []) := by
    intro g x1 H locs ls hP hD hS hl hF
    unfold f_V_takeTurn_61 at hF
    refine lv_aload_n hx hb d_V_takeTurn_61 rfl (lv_at hl 0 rfl) ?_
    refine lv_iload_n hx hb d_V_takeTurn_62 rfl (lv_at hl 1 rfl) ?_
    refine lv_iconst (v := 0) hx hb d_V_takeTurn_63 (by decide) ?_
    obtain ⟨r13, u14, hX, hF⟩ := qs_bn_some hF
    refine qs_cv (Wd := qs_W h c) (isC := [0, 1, 2, 3, 4, 5, 6, 7, 8, 9, 10, 11, 12, 13, 14, 15, 16]) (va_runV (own := "QuakeServer$Mover") (C := "QuakeServer$Mover") (As := [.int (x1), .int (0)]) (rest := []) ⟨hx, hb, hml, hown, hg⟩ (c_V_travel l dC dI h c H.size g (x1) (0)  u14 hX) (cwV 2 hg (qs_gV t_517 t_519 tp_8 t_6 t_520) rfl rfl rfl (by decide +kernel) ⟨Nat.le_of_ble_eq_true rfl, Nat.le_of_ble_eq_true rfl⟩) ⟨qs_blind, va_recv hK hP (ci := 4) (q0 := 5) rfl rfl, fun U hU hW => ⟨rfl, by rw [hU], by rw [hU]; exact hP, va_K.moved hW.alike hK, hD.weaken (fun _ _ _ _ => trivial), hNs.warm hW⟩⟩ rfl rfl hl.1 rfl (lv_room (Nat.le_of_ble_eq_true rfl)) d_V_takeTurn_64 ⟨Nat.le_of_ble_eq_true rfl, Nat.le_of_ble_eq_true rfl⟩) rfl hP hD hS hA (fun H locs hP hD hS => ?_)
    refine lv_aload_n hx hb d_V_takeTurn_67 rfl (lv_at hl 0 rfl) ?_
    refine lv_iload_n hx hb d_V_takeTurn_68 rfl (lv_at hl 1 rfl) ?_
    refine lv_iconst (v := 1) hx hb d_V_takeTurn_69 (by decide) ?_
    obtain ⟨r15, u16, hX, hF⟩ := qs_bn_some hF
    refine qs_cv (Wd := qs_W h c) (isC := [0, 1, 2, 3, 4, 5, 6, 7, 8, 9, 10, 11, 12, 13, 14, 15, 16]) (va_runV (own := "QuakeServer$Mover") (C := "QuakeServer$Mover") (As := [.int (x1), .int (1)]) (rest := []) ⟨hx, hb, hml, hown, hg⟩ (c_V_travel l dC dI h c H.size u14 (x1) (1)  u16 hX) (cwV 2 hg (qs_gV t_517 t_519 tp_8 t_6 t_520) rfl rfl rfl (by decide +kernel) ⟨Nat.le_of_ble_eq_true rfl, Nat.le_of_ble_eq_true rfl⟩) ⟨qs_blind, va_recv hK hP (ci := 4) (q0 := 5) rfl rfl, fun U hU hW => ⟨rfl, by rw [hU], by rw [hU]; exact hP, va_K.moved hW.alike hK, hD.weaken (fun _ _ _ _ => trivial), hNs.warm hW⟩⟩ rfl rfl hl.1 rfl (lv_room (Nat.le_of_ble_eq_true rfl)) d_V_takeTurn_70 ⟨Nat.le_of_ble_eq_true rfl, Nat.le_of_ble_eq_true rfl⟩) rfl hP hD hS hA (fun H locs hP hD hS => ?_)
    refine lv_aload_n hx hb d_V_takeTurn_73 rfl (lv_at hl 0 rfl) ?_
    refine lv_iload_n hx hb d_V_takeTurn_74 rfl (lv_at hl 1 rfl) ?_
    obtain ⟨r17, u18, hX, hF⟩ := qs_bn_some hF
    refine qs_cv (Wd := qs_W h c) (isC := [0, 1, 2, 3, 4, 5, 6, 7, 8, 9, 10, 11, 12, 13, 14, 15, 16]) (va_runV (own := "QuakeServer$Mover") (C := "QuakeServer$Mover") (As := [.int (x1)]) (rest := []) ⟨hx, hb, hml, hown, hg⟩ (c_V_touchTriggers l dC dI h c H.size u16 (x1)  u18 hX) (cwV 1 hg (qs_gV t_580 t_582 tp_15 t_6 t_583) rfl rfl rfl (by decide +kernel) ⟨Nat.le_of_ble_eq_true rfl, Nat.le_of_ble_eq_true rfl⟩) ⟨qs_blind, va_recv hK hP (ci := 4) (q0 := 5) rfl rfl, fun U hU hW => ⟨rfl, by rw [hU], by rw [hU]; exact hP, va_K.moved hW.alike hK, hD.weaken (fun _ _ _ _ => trivial), hNs.warm hW⟩⟩ rfl rfl hl.1 rfl (lv_room (Nat.le_of_ble_eq_true rfl)) d_V_takeTurn_75 ⟨Nat.le_of_ble_eq_true rfl, Nat.le_of_ble_eq_true rfl⟩) rfl hP hD hS hA (fun H locs hP hD hS => ?_)
    exact kb_78 u18 (x1) H locs ls hP hD hS (lv_sub hl [0, 1] rfl) hF
  have kb_46 : ∀ (g : Sg) (x1 : Int32) (x2 : Int32) (H : Heap) (locs : List Loc) (ls : Array Slot), va_P (dC, dI) vwCl (qs_W h c g) H → va_D A (qs_W h c g) → va_S A s.heap H locs → lv_has ls 3 [(0, .ref (h 5)), (1, .int (x1)), (2, .int (x2))] → f_V_takeTurn_46  g x1 x2 = some ((), u0) → W p l e (headSpec (qs_ws y_V_takeTurn b_V_takeTurn 3 none) ({ frames := 6, cells := 0, slots := 0, locals := 144 } : Room)).room s m ([.ref (h 5), .int a1] : List Value).toArray below meth cd H locs 0 0 (MQ below (va_Qv (fun (u : Sg) => u = u0) (qs_at dC dI h c A) A) ([.ref (h 5), .int a1] : List Value).toArray s 0 0 A) (F0 m 46 ls []) := by
    intro g x1 x2 H locs ls hP hD hS hl hF
    unfold f_V_takeTurn_46 at hF
    refine lv_iload_n hx hb d_V_takeTurn_46 rfl (lv_at hl 2 rfl) ?_
    refine lv_iconst (v := 1) hx hb d_V_takeTurn_47 (by decide) ?_
    refine lv_icmp_eq (tgt := 61) hx hb d_V_takeTurn_48 (by decide) (fun c10 => ?_) (fun c10 => ?_)
    · have hF := qs_pos c10 hF
      exact kb_61 g (x1) H locs ls hP hD hS (lv_sub hl [0, 1] rfl) hF
    · have hF := qs_neg c10 hF
      refine lv_iload_n hx hb d_V_takeTurn_51 rfl (lv_at hl 2 rfl) ?_
      refine lv_iconst (v := 2) hx hb d_V_takeTurn_52 (by decide) ?_
      refine lv_icmp_eq (tgt := 61) hx hb d_V_takeTurn_53 (by decide) (fun c11 => ?_) (fun c11 => ?_)
      · have hF := qs_pos c11 hF
        exact kb_61 g (x1) H locs ls hP hD hS (lv_sub hl [0, 1] rfl) hF
      · have hF := qs_neg c11 hF
        refine lv_iload_n hx hb d_V_takeTurn_56 rfl (lv_at hl 2 rfl) ?_
        refine lv_iconst (v := 3) hx hb d_V_takeTurn_57 (by decide) ?_
        refine lv_icmp_ne (tgt := 78) hx hb d_V_takeTurn_58 (by decide) (fun c12 => ?_) (fun c12 => ?_)
        · have hF := qs_neg c12 hF
          exact kb_78 g (x1) H locs ls hP hD hS (lv_sub hl [0, 1] rfl) hF
        · have hF := qs_pos c12 hF
          exact kb_61 g (x1) H locs ls hP hD hS (lv_sub hl [0, 1] rfl) hF
  have kb_21 : ∀ (g : Sg) (x1 : Int32) (x2 : Int32) (H : Heap) (locs : List Loc) (ls : Array Slot), va_P (dC, dI) vwCl (qs_W h c g) H → va_D A (qs_W h c g) → va_S A s.heap H locs → lv_has ls 3 [(0, .ref (h 5)), (1, .int (x1)), (2, .int (x2))] → f_V_takeTurn_21  g x1 x2 = some ((), u0) → W p l e (headSpec (qs_ws y_V_takeTurn b_V_takeTurn 3 none) ({ frames := 6, cells := 0, slots := 0, locals := 144 } : Room)).room s m ([.ref (h 5), .int a1] : List Value).toArray below meth cd H locs 0 0 (MQ below (va_Qv (fun (u : Sg) => u = u0) (qs_at dC dI h c A) A) ([.ref (h 5), .int a1] : List Value).toArray s 0 0 A) (F0 m 21 ls []) := by
    intro g x1 x2 H locs ls hP hD hS hl hF
    unfold f_V_takeTurn_21 at hF
    refine lv_aload_n hx hb d_V_takeTurn_21 rfl (lv_at hl 0 rfl) ?_
    refine va_get (D := (dC, dI)) (ci := 4) (v := .ref (h 1)) (C := R_V) (T := T_V) (N := 6) hx hb hg in_V hown hK hP 5 rfl rfl 0 (by decide) (hg _ t_123) (fun _ h9 => h9) rfl d_V_takeTurn_22 ?_
    refine lv_iload_n hx hb d_V_takeTurn_25 rfl (lv_at hl 1 rfl) ?_
    refine lv_iconst (v := 3) hx hb d_V_takeTurn_26 (by decide) ?_
    refine lv_aload_n hx hb d_V_takeTurn_27 rfl (lv_at hl 0 rfl) ?_
    refine va_get (D := (dC, dI)) (ci := 4) (v := .ref (h 1)) (C := R_V) (T := T_V) (N := 6) hx hb hg in_V hown hK hP 5 rfl rfl 0 (by decide) (hg _ t_123) (fun _ h9 => h9) rfl d_V_takeTurn_28 ?_
    refine lv_iload_n hx hb d_V_takeTurn_31 rfl (lv_at hl 1 rfl) ?_
    refine lv_iconst (v := 3) hx hb d_V_takeTurn_32 (by decide) ?_
    obtain ⟨r5, u6, hX, hF⟩ := qs_bn_some hF
    refine qs_ci (Wd := qs_W h c) (isC := [0, 1, 2, 3, 4, 5, 6, 7, 8, 9, 10, 11, 12, 13, 14, 15, 16]) (va_runV (own := "QuakeServer$Mover") (C := "QuakeServer$Entities") (As := [.int (x1), .int (3)]) (rest := [.int (3), .int (x1), .ref (h 1)]) ⟨hx, hb, hml, hown, hg⟩ (c_E_field l dC dI h c H.size g (x1) (3) r5 u6 hX) (cwV 2 hg (qs_gV t_514 t_192 t_193 t_2 t_194) rfl rfl rfl (by decide +kernel) ⟨Nat.le_of_ble_eq_true rfl, Nat.le_of_ble_eq_true rfl⟩) ⟨qs_blind, va_recv hK hP (ci := 0) (q0 := 1) rfl rfl, fun U hU hW => ⟨rfl, by rw [hU], by rw [hU]; exact hP, va_K.moved hW.alike hK, hD.weaken (fun _ _ _ _ => trivial), hNs.warm hW⟩⟩ rfl rfl hl.1 rfl (lv_room (Nat.le_of_ble_eq_true rfl)) d_V_takeTurn_33 ⟨Nat.le_of_ble_eq_true rfl, Nat.le_of_ble_eq_true rfl⟩) rfl hP hD hS hA (fun H locs hP hD hS => ?_)
    refine lv_bipush (v := 64) hx hb d_V_takeTurn_36 (by decide) ?_
    refine lv_isub hx hb d_V_takeTurn_38 ?_
    refine lv_i2l (v := (r5 - 64).toInt64) hx hb d_V_takeTurn_39 rfl ?_
    obtain ⟨r7, hX, hF⟩ := qs_pb_some hF
    refine qs_psi (va_runSN (own := "QuakeServer$Mover") (As := [.long ((r5 - 64).toInt64)]) (rest := [.int (3), .int (x1), .ref (h 1)]) ⟨hx, hb, hml, hown, hg⟩ (c_Q_inRange l H.size ((r5 - 64).toInt64) r7 hX) ⟨va_cnB (own := "QuakeServer$Mover") (index := 32) (host := "QuakeServer") 1 hg (qs_gc t_471) rfl rfl rfl (nM_8 hNs) (hg _ t_1) (by decide +kernel) ⟨Nat.le_of_ble_eq_true rfl, Nat.le_of_ble_eq_true rfl⟩, hg _ t_470, trivial⟩ ⟨qs_blind0, fun U hU hW => ⟨rfl, by rw [hU], hNs.warm hW⟩⟩ rfl rfl hl.1 rfl (lv_room (Nat.le_of_ble_eq_true rfl)) d_V_takeTurn_40 ⟨Nat.le_of_ble_eq_true rfl, Nat.le_of_ble_eq_true rfl⟩) hP hD hS hA (fun H locs hP hS => ?_)
    obtain ⟨r8, u9, hX, hF⟩ := qs_bn_some hF
    refine qs_cv (Wd := qs_W h c) (isC := [0, 1, 2, 3, 4, 5, 6, 7, 8, 9, 10, 11, 12, 13, 14, 15, 16]) (va_runV (own := "QuakeServer$Mover") (C := "QuakeServer$Entities") (As := [.int (x1), .int (3), .int (r7)]) (rest := []) ⟨hx, hb, hml, hown, hg⟩ (c_E_put l dC dI h c H.size u6 (x1) (3) (r7)  u9 hX) (cwV 3 hg (qs_gV t_516 t_355 t_356 t_2 t_357) rfl rfl rfl (by decide +kernel) ⟨Nat.le_of_ble_eq_true rfl, Nat.le_of_ble_eq_true rfl⟩) ⟨qs_blind, va_recv hK hP (ci := 0) (q0 := 1) rfl rfl, fun U hU hW => ⟨rfl, by rw [hU], by rw [hU]; exact hP, va_K.moved hW.alike hK, hD.weaken (fun _ _ _ _ => trivial), hNs.warm hW⟩⟩ rfl rfl hl.1 rfl (lv_room (Nat.le_of_ble_eq_true rfl)) d_V_takeTurn_43 ⟨Nat.le_of_ble_eq_true rfl, Nat.le_of_ble_eq_true rfl⟩) rfl hP hD hS hA (fun H locs hP hD hS => ?_)
    exact kb_46 u9 (x1) (x2) H locs ls hP hD hS (lv_sub hl [0, 1, 2] rfl) hF
  have hl := lv_entry ([.ref (h 5), .int a1] : List Value) (n := 3) (Nat.le_of_ble_eq_true rfl)
  rw [lg_entry_eq]
  generalize (lg_sl ([.ref (h 5), .int a1] : List Value) ++ List.replicate (3 - (lg_sl ([.ref (h 5), .int a1] : List Value)).length) Slot.unset).toArray = ls at hl ⊢
  have hl : lv_has ls 3 [(0, .ref (h 5)), (1, .int (a1))] := hl
  unfold f_V_takeTurn at hF
  obtain ⟨H, hHe⟩ : ∃ H, H = s.heap := ⟨_, rfl⟩
  obtain ⟨locs, hLe⟩ : ∃ L : List Loc, L = [] := ⟨_, rfl⟩
  rw [← hHe] at hP ⊢
  rw [← hLe]
  have hS : va_S A s.heap H locs := by rw [hHe, hLe]; exact hS
  refine lv_aload_n hx hb d_V_takeTurn_0 rfl (lv_at hl 0 rfl) ?_
  refine va_get (D := (dC, dI)) (ci := 4) (v := .ref (h 1)) (C := R_V) (T := T_V) (N := 6) hx hb hg in_V hown hK hP 5 rfl rfl 0 (by decide) (hg _ t_123) (fun _ h9 => h9) rfl d_V_takeTurn_1 ?_
  refine lv_iload_n hx hb d_V_takeTurn_4 rfl (lv_at hl 1 rfl) ?_
  refine lv_bipush (v := 6) hx hb d_V_takeTurn_5 (by decide) ?_
  obtain ⟨r1, u2, hX, hF⟩ := qs_bn_some hF
  refine qs_ci (Wd := qs_W h c) (isC := [0, 1, 2, 3, 4, 5, 6, 7, 8, 9, 10, 11, 12, 13, 14, 15, 16]) (va_runV (own := "QuakeServer$Mover") (C := "QuakeServer$Entities") (As := [.int (a1), .int (6)]) (rest := []) ⟨hx, hb, hml, hown, hg⟩ (c_E_wholeField l dC dI h c H.size g (a1) (6) r1 u2 hX) (cwV 2 hg (qs_gV t_508 t_509 t_510 t_2 t_511) rfl rfl rfl (by decide +kernel) ⟨Nat.le_of_ble_eq_true rfl, Nat.le_of_ble_eq_true rfl⟩) ⟨qs_blind, va_recv hK hP (ci := 0) (q0 := 1) rfl rfl, fun U hU hW => ⟨rfl, by rw [hU], by rw [hU]; exact hP, va_K.moved hW.alike hK, hD.weaken (fun _ _ _ _ => trivial), hNs.warm hW⟩⟩ rfl rfl hl.1 rfl (lv_room (Nat.le_of_ble_eq_true rfl)) d_V_takeTurn_7 ⟨Nat.le_of_ble_eq_true rfl, Nat.le_of_ble_eq_true rfl⟩) rfl hP hD hS hA (fun H locs hP hD hS => ?_)
  refine lv_istore_n (lv' := [(2, .int (r1)), (0, .ref (h 5)), (1, .int (a1))]) hx hb d_V_takeTurn_10 rfl hl (by decide) rfl (fun ls hl => ?_)
  refine lv_iload_n hx hb d_V_takeTurn_11 rfl (lv_at hl 0 rfl) ?_
  refine lv_iconst (v := 2) hx hb d_V_takeTurn_12 (by decide) ?_
  refine lv_icmp_eq (tgt := 21) hx hb d_V_takeTurn_13 (by decide) (fun c3 => ?_) (fun c3 => ?_)
  · have hF := qs_pos c3 hF
    exact kb_21 u2 (a1) (r1) H locs ls hP hD hS (lv_sub hl [1, 2, 0] rfl) hF
  · have hF := qs_neg c3 hF
    refine lv_iload_n hx hb d_V_takeTurn_16 rfl (lv_at hl 0 rfl) ?_
    refine lv_iconst (v := 3) hx hb d_V_takeTurn_17 (by decide) ?_
    refine lv_icmp_ne (tgt := 46) hx hb d_V_takeTurn_18 (by decide) (fun c4 => ?_) (fun c4 => ?_)
    · have hF := qs_neg c4 hF
      exact kb_46 u2 (a1) (r1) H locs ls hP hD hS (lv_sub hl [1, 2, 0] rfl) hF
    · have hF := qs_pos c4 hF
      exact kb_21 u2 (a1) (r1) H locs ls hP hD hS (lv_sub hl [1, 2, 0] rfl) hF
