theorem d_N_wall_0 : decode b_N_wall 0 = .ok (.aload_n 0, 1) := by decide +kernel
theorem d_N_wall_1 : decode b_N_wall 1 = .ok (.iconst 0, 1) := by decide +kernel
theorem d_N_wall_2 : decode b_N_wall 2 = .ok (.putfield 52, 3) := by decide +kernel
theorem d_N_wall_5 : decode b_N_wall 5 = .ok (.iload_n 1, 1) := by decide +kernel
theorem d_N_wall_6 : decode b_N_wall 6 = .ok (.sipush (-1024), 3) := by decide +kernel
theorem d_N_wall_9 : decode b_N_wall 9 = .ok (.sipush 1024, 3) := by decide +kernel
theorem d_N_wall_12 : decode b_N_wall 12 = .ok (.invokestatic 65, 3) := by decide +kernel
theorem d_N_wall_15 : decode b_N_wall 15 = .ok (.ifCond .eq 47, 3) := by decide +kernel
theorem d_N_wall_18 : decode b_N_wall 18 = .ok (.iload_n 2, 1) := by decide +kernel
theorem d_N_wall_19 : decode b_N_wall 19 = .ok (.sipush (-1024), 3) := by decide +kernel
theorem d_N_wall_22 : decode b_N_wall 22 = .ok (.sipush 1024, 3) := by decide +kernel
theorem d_N_wall_25 : decode b_N_wall 25 = .ok (.invokestatic 65, 3) := by decide +kernel
theorem d_N_wall_28 : decode b_N_wall 28 = .ok (.ifCond .eq 34, 3) := by decide +kernel
theorem d_N_wall_31 : decode b_N_wall 31 = .ok (.iload_n 3, 1) := by decide +kernel
theorem d_N_wall_32 : decode b_N_wall 32 = .ok (.sipush (-1024), 3) := by decide +kernel
theorem d_N_wall_35 : decode b_N_wall 35 = .ok (.sipush 1024, 3) := by decide +kernel
theorem d_N_wall_38 : decode b_N_wall 38 = .ok (.invokestatic 65, 3) := by decide +kernel
theorem d_N_wall_41 : decode b_N_wall 41 = .ok (.ifCond .eq 21, 3) := by decide +kernel
theorem d_N_wall_44 : decode b_N_wall 44 = .ok (.iload 4, 2) := by decide +kernel
theorem d_N_wall_46 : decode b_N_wall 46 = .ok (.sipush (-1024), 3) := by decide +kernel
theorem d_N_wall_49 : decode b_N_wall 49 = .ok (.sipush 1024, 3) := by decide +kernel
theorem d_N_wall_52 : decode b_N_wall 52 = .ok (.invokestatic 65, 3) := by decide +kernel
theorem d_N_wall_55 : decode b_N_wall 55 = .ok (.ifCond .eq 7, 3) := by decide +kernel
theorem d_N_wall_58 : decode b_N_wall 58 = .ok (.iconst 1, 1) := by decide +kernel
theorem d_N_wall_59 : decode b_N_wall 59 = .ok (.goto 4, 3) := by decide +kernel
theorem d_N_wall_62 : decode b_N_wall 62 = .ok (.iconst 0, 1) := by decide +kernel
theorem d_N_wall_63 : decode b_N_wall 63 = .ok (.istore 5, 2) := by decide +kernel
theorem d_N_wall_65 : decode b_N_wall 65 = .ok (.iload 5, 2) := by decide +kernel
theorem d_N_wall_67 : decode b_N_wall 67 = .ok (.ifCond .eq 14, 3) := by decide +kernel
theorem d_N_wall_70 : decode b_N_wall 70 = .ok (.iload_n 1, 1) := by decide +kernel
theorem d_N_wall_71 : decode b_N_wall 71 = .ok (.iload_n 3, 1) := by decide +kernel
theorem d_N_wall_72 : decode b_N_wall 72 = .ok (.if_icmp .ge 9, 3) := by decide +kernel
theorem d_N_wall_75 : decode b_N_wall 75 = .ok (.iload_n 2, 1) := by decide +kernel
theorem d_N_wall_76 : decode b_N_wall 76 = .ok (.iload 4, 2) := by decide +kernel
theorem d_N_wall_78 : decode b_N_wall 78 = .ok (.if_icmp .lt 9, 3) := by decide +kernel
theorem d_N_wall_81 : decode b_N_wall 81 = .ok (.aload_n 0, 1) := by decide +kernel
theorem d_N_wall_82 : decode b_N_wall 82 = .ok (.iconst 1, 1) := by decide +kernel
theorem d_N_wall_83 : decode b_N_wall 83 = .ok (.invokevirtual 69, 3) := by decide +kernel
theorem d_N_wall_86 : decode b_N_wall 86 = .ok (.ireturn, 1) := by decide +kernel
theorem d_N_wall_87 : decode b_N_wall 87 = .ok (.aload_n 0, 1) := by decide +kernel
theorem d_N_wall_88 : decode b_N_wall 88 = .ok (.getfield 73, 3) := by decide +kernel
theorem d_N_wall_91 : decode b_N_wall 91 = .ok (.bipush 6, 2) := by decide +kernel
theorem d_N_wall_93 : decode b_N_wall 93 = .ok (.if_icmp .ne 9, 3) := by decide +kernel
theorem d_N_wall_96 : decode b_N_wall 96 = .ok (.aload_n 0, 1) := by decide +kernel
theorem d_N_wall_97 : decode b_N_wall 97 = .ok (.iconst 2, 1) := by decide +kernel
theorem d_N_wall_98 : decode b_N_wall 98 = .ok (.invokevirtual 69, 3) := by decide +kernel
theorem d_N_wall_101 : decode b_N_wall 101 = .ok (.ireturn, 1) := by decide +kernel
theorem d_N_wall_102 : decode b_N_wall 102 = .ok (.aload_n 0, 1) := by decide +kernel
theorem d_N_wall_103 : decode b_N_wall 103 = .ok (.getfield 23, 3) := by decide +kernel
theorem d_N_wall_106 : decode b_N_wall 106 = .ok (.iconst 4, 1) := by decide +kernel
theorem d_N_wall_107 : decode b_N_wall 107 = .ok (.aload_n 0, 1) := by decide +kernel
theorem d_N_wall_108 : decode b_N_wall 108 = .ok (.getfield 73, 3) := by decide +kernel
theorem d_N_wall_111 : decode b_N_wall 111 = .ok (.imul, 1) := by decide +kernel
theorem d_N_wall_112 : decode b_N_wall 112 = .ok (.ldc2_w 59, 3) := by decide +kernel
theorem d_N_wall_115 : decode b_N_wall 115 = .ok (.iload_n 1, 1) := by decide +kernel
theorem d_N_wall_116 : decode b_N_wall 116 = .ok (.i2l, 1) := by decide +kernel
theorem d_N_wall_117 : decode b_N_wall 117 = .ok (.lmul, 1) := by decide +kernel
theorem d_N_wall_118 : decode b_N_wall 118 = .ok (.lastore, 1) := by decide +kernel
theorem d_N_wall_119 : decode b_N_wall 119 = .ok (.aload_n 0, 1) := by decide +kernel
theorem d_N_wall_120 : decode b_N_wall 120 = .ok (.getfield 23, 3) := by decide +kernel
theorem d_N_wall_123 : decode b_N_wall 123 = .ok (.iconst 4, 1) := by decide +kernel
theorem d_N_wall_124 : decode b_N_wall 124 = .ok (.aload_n 0, 1) := by decide +kernel
theorem d_N_wall_125 : decode b_N_wall 125 = .ok (.getfield 73, 3) := by decide +kernel
theorem d_N_wall_128 : decode b_N_wall 128 = .ok (.imul, 1) := by decide +kernel
theorem d_N_wall_129 : decode b_N_wall 129 = .ok (.iconst 1, 1) := by decide +kernel
theorem d_N_wall_130 : decode b_N_wall 130 = .ok (.iadd, 1) := by decide +kernel
theorem d_N_wall_131 : decode b_N_wall 131 = .ok (.ldc2_w 59, 3) := by decide +kernel
theorem d_N_wall_134 : decode b_N_wall 134 = .ok (.iload_n 3, 1) := by decide +kernel
theorem d_N_wall_135 : decode b_N_wall 135 = .ok (.i2l, 1) := by decide +kernel
theorem d_N_wall_136 : decode b_N_wall 136 = .ok (.lmul, 1) := by decide +kernel
theorem d_N_wall_137 : decode b_N_wall 137 = .ok (.lastore, 1) := by decide +kernel
theorem d_N_wall_138 : decode b_N_wall 138 = .ok (.aload_n 0, 1) := by decide +kernel
theorem d_N_wall_139 : decode b_N_wall 139 = .ok (.getfield 23, 3) := by decide +kernel
theorem d_N_wall_142 : decode b_N_wall 142 = .ok (.iconst 4, 1) := by decide +kernel
theorem d_N_wall_143 : decode b_N_wall 143 = .ok (.aload_n 0, 1) := by decide +kernel
theorem d_N_wall_144 : decode b_N_wall 144 = .ok (.getfield 73, 3) := by decide +kernel
theorem d_N_wall_147 : decode b_N_wall 147 = .ok (.imul, 1) := by decide +kernel
theorem d_N_wall_148 : decode b_N_wall 148 = .ok (.iconst 2, 1) := by decide +kernel
theorem d_N_wall_149 : decode b_N_wall 149 = .ok (.iadd, 1) := by decide +kernel
theorem d_N_wall_150 : decode b_N_wall 150 = .ok (.ldc2_w 59, 3) := by decide +kernel
theorem d_N_wall_153 : decode b_N_wall 153 = .ok (.iload_n 2, 1) := by decide +kernel
theorem d_N_wall_154 : decode b_N_wall 154 = .ok (.i2l, 1) := by decide +kernel
theorem d_N_wall_155 : decode b_N_wall 155 = .ok (.lmul, 1) := by decide +kernel
theorem d_N_wall_156 : decode b_N_wall 156 = .ok (.lastore, 1) := by decide +kernel
theorem d_N_wall_157 : decode b_N_wall 157 = .ok (.aload_n 0, 1) := by decide +kernel
theorem d_N_wall_158 : decode b_N_wall 158 = .ok (.getfield 23, 3) := by decide +kernel
theorem d_N_wall_161 : decode b_N_wall 161 = .ok (.iconst 4, 1) := by decide +kernel
theorem d_N_wall_162 : decode b_N_wall 162 = .ok (.aload_n 0, 1) := by decide +kernel
theorem d_N_wall_163 : decode b_N_wall 163 = .ok (.getfield 73, 3) := by decide +kernel
theorem d_N_wall_166 : decode b_N_wall 166 = .ok (.imul, 1) := by decide +kernel
theorem d_N_wall_167 : decode b_N_wall 167 = .ok (.iconst 3, 1) := by decide +kernel
theorem d_N_wall_168 : decode b_N_wall 168 = .ok (.iadd, 1) := by decide +kernel
theorem d_N_wall_169 : decode b_N_wall 169 = .ok (.ldc2_w 59, 3) := by decide +kernel
theorem d_N_wall_172 : decode b_N_wall 172 = .ok (.iload 4, 2) := by decide +kernel
theorem d_N_wall_174 : decode b_N_wall 174 = .ok (.i2l, 1) := by decide +kernel
theorem d_N_wall_175 : decode b_N_wall 175 = .ok (.lmul, 1) := by decide +kernel
theorem d_N_wall_176 : decode b_N_wall 176 = .ok (.lastore, 1) := by decide +kernel
theorem d_N_wall_177 : decode b_N_wall 177 = .ok (.aload_n 0, 1) := by decide +kernel
theorem d_N_wall_178 : decode b_N_wall 178 = .ok (.dup, 1) := by decide +kernel
theorem d_N_wall_179 : decode b_N_wall 179 = .ok (.getfield 73, 3) := by decide +kernel
theorem d_N_wall_182 : decode b_N_wall 182 = .ok (.iconst 1, 1) := by decide +kernel
theorem d_N_wall_183 : decode b_N_wall 183 = .ok (.iadd, 1) := by decide +kernel
theorem d_N_wall_184 : decode b_N_wall 184 = .ok (.putfield 73, 3) := by decide +kernel
theorem d_N_wall_187 : decode b_N_wall 187 = .ok (.aload_n 0, 1) := by decide +kernel
theorem d_N_wall_188 : decode b_N_wall 188 = .ok (.getfield 73, 3) := by decide +kernel
theorem d_N_wall_191 : decode b_N_wall 191 = .ok (.iconst 1, 1) := by decide +kernel
theorem d_N_wall_192 : decode b_N_wall 192 = .ok (.isub, 1) := by decide +kernel
theorem d_N_wall_193 : decode b_N_wall 193 = .ok (.ireturn, 1) := by decide +kernel
def f_N_wall_81  (g : Sm) : Option (Int32 × Sm) := (qs_bn (f_N_fail g (1)) fun r25 u26 => (some (r25, u26)))
def f_N_wall_63  (g : Sm) (x1 : Int32) (x2 : Int32) (x3 : Int32) (x4 : Int32) (y0 : Int32) : Option (Int32 × Sm) := (if y0 = 0 then (f_N_wall_81 g) else (if x3 ≤ x1 then (f_N_wall_81 g) else (if x2 < x4 then (if (g.1 21 0) = 6 then (qs_bn (f_N_fail g (2)) fun r23 u24 => (some (r23, u24))) else (qs_in (4 * (g.1 21 0)) 24 (qs_st (qm_la g 5 (4 * (g.1 21 0)).toNatClampNeg ((8 : Int64) * (x1.toInt64))) fun u15 => (qs_in ((4 * (u15.1 21 0)) + 1) 24 (qs_st (qm_la u15 5 ((4 * (u15.1 21 0)) + 1).toNatClampNeg ((8 : Int64) * (x3.toInt64))) fun u17 => (qs_in ((4 * (u17.1 21 0)) + 2) 24 (qs_st (qm_la u17 5 ((4 * (u17.1 21 0)) + 2).toNatClampNeg ((8 : Int64) * (x2.toInt64))) fun u19 => (qs_in ((4 * (u19.1 21 0)) + 3) 24 (qs_st (qm_la u19 5 ((4 * (u19.1 21 0)) + 3).toNatClampNeg ((8 : Int64) * (x4.toInt64))) fun u21 => (qs_st (qm_i u21 21 ((u21.1 21 0) + 1)) fun u22 => (some ((u22.1 21 0) - 1, u22)))))))))))) else (f_N_wall_81 g))))
def f_N_wall_62  (g : Sm) (x1 : Int32) (x2 : Int32) (x3 : Int32) (x4 : Int32) : Option (Int32 × Sm) := (f_N_wall_63 g (x1) (x2) (x3) (x4) (0))
def f_N_wall (g : Sm) (a1 : Int32) (a2 : Int32) (a3 : Int32) (a4 : Int32) : Option (Int32 × Sm) := (qs_st (qm_i g 20 (0)) fun u1 => (qs_pb (f_N_in (a1) ((-1024)) (1024)) fun r2 => (if r2 = 0 then (f_N_wall_62 u1 (a1) (a2) (a3) (a4)) else (qs_pb (f_N_in (a2) ((-1024)) (1024)) fun r4 => (if r4 = 0 then (f_N_wall_62 u1 (a1) (a2) (a3) (a4)) else (qs_pb (f_N_in (a3) ((-1024)) (1024)) fun r6 => (if r6 = 0 then (f_N_wall_62 u1 (a1) (a2) (a3) (a4)) else (qs_pb (f_N_in (a4) ((-1024)) (1024)) fun r8 => (if r8 = 0 then (f_N_wall_62 u1 (a1) (a2) (a3) (a4)) else (f_N_wall_63 u1 (a1) (a2) (a3) (a4) (1)))))))))))
set_option maxHeartbeats 4000000 in
set_option maxRecDepth 100000 in
theorem c_N_wall (l : Launch) (dC : Nat → ClassId) (dI : Nat → Nat → Nat) (h : Nat → Nat) (c : Nat → ClassId) (sz : Nat) (g : Sm) (a1 : Int32) (a2 : Int32) (a3 : Int32) (a4 : Int32) (r0 : Int32) (u0 : Sm) (hF : f_N_wall g a1 a2 a3 a4 = some (r0, u0)) : Met l y_N_wall (qs_ws y_N_wall b_N_wall 6 (some .int)) ({ frames := 1, cells := 0, slots := 0, locals := 22 } : Room) (va_Pc ([.ref (h 0), .int a1, .int a2, .int a3, .int a4] : List Value) (fun U => U.heap.size = sz ∧ va_P (dC, dI) vwCl (ms_W h c g) U.heap ∧ va_K (dC, dI) vwCl (ms_T c) U ∧ va_D (fun _ => True) (ms_W h c g) ∧ qs_N U)) (va_Qi (fun (r : Int32) (u : Sm) => r = r0 ∧ u = u0) (ms_at dC dI h c (va_A (ms_W h c g) sz)) (va_A (ms_W h c g) sz)) 0 0 (va_A (ms_W h c g) sz) := by
  refine Met.ofW (cc := b_N_wall) (maxL := 6) (ret := (some .int)) (by decide +kernel) rfl ?_
  intro p e s m args below meth cd s₁ B hml hv
  obtain ⟨rfl, hsz, hP, hK, hD0, hNs⟩ := hv
  have hx := B.exec
  have hb := B.bytes
  have hr := B.returns
  have hts := atoms_spec (ws := (qs_ws y_N_wall b_N_wall 6 (some .int))) B.pre
  have hg : ∀ w ∈ qs_gt, w.before _ s = true := fun w h => hts w (List.mem_cons_of_mem _ h)
  have hown : s.vm.findClass R_N = some m.cls := findClass_of_methodNamed B.named
  have hlocks := B.notSynchronized
  subst hsz
  have hD := hD0.self (sz := s.heap.size)
  generalize hAe : va_A (ms_W h c g) s.heap.size = A at hD ⊢
  have hA : ∀ q : Nat, s.heap.size ≤ q → A q := fun q h => by rw [← hAe]; exact Or.inr h
  have hS : va_S A s.heap s.heap [] := va_S.rf
  have kb_81 : ∀ (g : Sm) (H : Heap) (locs : List Loc) (ls : Array Slot), va_P (dC, dI) vwCl (ms_W h c g) H → va_D A (ms_W h c g) → va_S A s.heap H locs → lv_has ls 6 [(0, .ref (h 0))] → f_N_wall_81  g = some (r0, u0) → W p l e (headSpec (qs_ws y_N_wall b_N_wall 6 (some .int)) ({ frames := 1, cells := 0, slots := 0, locals := 22 } : Room)).room s m ([.ref (h 0), .int a1, .int a2, .int a3, .int a4] : List Value).toArray below meth cd H locs 0 0 (MQ below (va_Qi (fun (r : Int32) (u : Sm) => r = r0 ∧ u = u0) (ms_at dC dI h c A) A) ([.ref (h 0), .int a1, .int a2, .int a3, .int a4] : List Value).toArray s 0 0 A) (F0 m 81 ls []) := by
    intro g H locs ls hP hD hS hl hF
    unfold f_N_wall_81 at hF
    refine lv_aload_n hx hb d_N_wall_81 rfl (lv_at hl 0 rfl) ?_
    refine lv_iconst (v := 1) hx hb d_N_wall_82 (by decide) ?_
    obtain ⟨r25, u26, hX, hF⟩ := qs_bn_some hF
    refine qs_ci (Wd := ms_W h c) (isC := [0, 1, 2, 3, 4, 5, 6, 7, 8, 9, 10, 11, 12]) (va_runV (own := "QuakeServerModel") (C := "QuakeServerModel") (As := [.int (1)]) (rest := []) ⟨hx, hb, hml, hown, hg⟩ (c_N_fail l dC dI h c H.size g (1) r25 u26 hX) (cwV 1 hg (qs_gV t_697 t_699 tp_17 t_8 t_700) rfl rfl rfl (by decide +kernel) ⟨Nat.le_of_ble_eq_true rfl, Nat.le_of_ble_eq_true rfl⟩) ⟨qs_blind, va_recv hK hP (ci := 7) (q0 := 0) rfl rfl, fun U hU hW => ⟨rfl, by rw [hU], by rw [hU]; exact hP, va_K.moved hW.alike hK, hD.weaken (fun _ _ _ _ => trivial), hNs.warm hW⟩⟩ rfl rfl hl.1 rfl (lv_room (Nat.le_of_ble_eq_true rfl)) d_N_wall_83 ⟨Nat.le_of_ble_eq_true rfl, Nat.le_of_ble_eq_true rfl⟩) rfl hP hD hS hA (fun H locs hP hD hS => ?_)
    obtain ⟨h8, h9⟩ := qs_ret hF
    exact W.iret (v := r25) hx hb hr (fun t ht hW => ⟨⟨r25, u26, rfl, ⟨h8, h9⟩, by rw [ht]; exact hP, va_K.moved hW.alike hK, hD⟩, hS.F ht⟩) hS.2.2 d_N_wall_86
  have kb_63 : ∀ (g : Sm) (x1 : Int32) (x2 : Int32) (x3 : Int32) (x4 : Int32) (y0 : Int32) (H : Heap) (locs : List Loc) (ls : Array Slot), va_P (dC, dI) vwCl (ms_W h c g) H → va_D A (ms_W h c g) → va_S A s.heap H locs → lv_has ls 6 [(0, .ref (h 0)), (1, .int (x1)), (2, .int (x2)), (3, .int (x3)), (4, .int (x4))] → f_N_wall_63  g x1 x2 x3 x4 y0 = some (r0, u0) → W p l e (headSpec (qs_ws y_N_wall b_N_wall 6 (some .int)) ({ frames := 1, cells := 0, slots := 0, locals := 22 } : Room)).room s m ([.ref (h 0), .int a1, .int a2, .int a3, .int a4] : List Value).toArray below meth cd H locs 0 0 (MQ below (va_Qi (fun (r : Int32) (u : Sm) => r = r0 ∧ u = u0) (ms_at dC dI h c A) A) ([.ref (h 0), .int a1, .int a2, .int a3, .int a4] : List Value).toArray s 0 0 A) (F0 m 63 ls [.int (y0)]) := by
    intro g x1 x2 x3 x4 y0 H locs ls hP hD hS hl hF
    unfold f_N_wall_63 at hF
    refine lv_istore (lv' := [(5, .int (y0)), (0, .ref (h 0)), (1, .int (x1)), (2, .int (x2)), (3, .int (x3)), (4, .int (x4))]) hx hb d_N_wall_63 hl (by decide) rfl (fun ls hl => ?_)
    refine lv_iload hx hb d_N_wall_65 (lv_at hl 0 rfl) ?_
    refine lv_if_eq (tgt := 81) hx hb d_N_wall_67 (by decide) (fun c10 => ?_) (fun c10 => ?_)
    · have hF := qs_pos c10 hF
      exact kb_81 g H locs ls hP hD hS (lv_sub hl [1] rfl) hF
    · have hF := qs_neg c10 hF
      refine lv_iload_n hx hb d_N_wall_70 rfl (lv_at hl 2 rfl) ?_
      refine lv_iload_n hx hb d_N_wall_71 rfl (lv_at hl 4 rfl) ?_
      refine lv_icmp_ge (tgt := 81) hx hb d_N_wall_72 (by decide) (fun c11 => ?_) (fun c11 => ?_)
      · have hF := qs_pos c11 hF
        exact kb_81 g H locs ls hP hD hS (lv_sub hl [1] rfl) hF
      · have hF := qs_neg c11 hF
        refine lv_iload_n hx hb d_N_wall_75 rfl (lv_at hl 3 rfl) ?_
        refine lv_iload hx hb d_N_wall_76 (lv_at hl 5 rfl) ?_
        refine lv_icmp_lt (tgt := 87) hx hb d_N_wall_78 (by decide) (fun c12 => ?_) (fun c12 => ?_)
        · have hF := qs_pos c12 hF
          refine lv_aload_n hx hb d_N_wall_87 rfl (lv_at hl 1 rfl) ?_
          refine va_get (D := (dC, dI)) (ci := 7) (v := .int (g.1 21 0)) (C := R_N) (T := T_N) (N := 22) hx hb hg in_N hown hK hP 0 rfl rfl 6 (by decide) (hg _ t_624) (fun _ h9 => h9) rfl d_N_wall_88 ?_
          refine lv_bipush (v := 6) hx hb d_N_wall_91 (by decide) ?_
          refine lv_icmp_ne (tgt := 102) hx hb d_N_wall_93 (by decide) (fun c13 => ?_) (fun c13 => ?_)
          · have hF := qs_neg c13 hF
            refine lv_aload_n hx hb d_N_wall_102 rfl (lv_at hl 1 rfl) ?_
            refine va_get (D := (dC, dI)) (ci := 7) (v := .ref (h 5)) (C := R_N) (T := T_N) (N := 22) hx hb hg in_N hown hK hP 0 rfl rfl 5 (by decide) (hg _ t_623) (fun _ h9 => h9) rfl d_N_wall_103 ?_
            refine lv_iconst (v := 4) hx hb d_N_wall_106 (by decide) ?_
            refine lv_aload_n hx hb d_N_wall_107 rfl (lv_at hl 1 rfl) ?_
            refine va_get (D := (dC, dI)) (ci := 7) (v := .int (g.1 21 0)) (C := R_N) (T := T_N) (N := 22) hx hb hg in_N hown hK hP 0 rfl rfl 6 (by decide) (hg _ t_624) (fun _ h9 => h9) rfl d_N_wall_108 ?_
            refine lv_imul hx hb d_N_wall_111 ?_
            refine lv_ldc2 (v := 8) hx hb hown (hg _ t_701) d_N_wall_112 ?_
            refine lv_iload_n hx hb d_N_wall_115 rfl (lv_at hl 2 rfl) ?_
            refine lv_i2l (v := x1.toInt64) hx hb d_N_wall_116 rfl ?_
            refine lv_lmul hx hb d_N_wall_117 ?_
            obtain ⟨c14, hF⟩ := qs_in_some hF
            refine va_last hx hb hK hP hD hS 5 4 rfl rfl c14 d_N_wall_118 (fun H locs hP hD hS => ?_)
            obtain ⟨u15, hu15, hF⟩ := qs_st_some hF
            have hP : va_P (dC, dI) vwCl (ms_W h c u15) H := by rw [hu15]; exact hP
            have hD : va_D A (ms_W h c u15) := by rw [hu15]; exact hD
            clear hu15
            refine lv_aload_n hx hb d_N_wall_119 rfl (lv_at hl 1 rfl) ?_
            refine va_get (D := (dC, dI)) (ci := 7) (v := .ref (h 5)) (C := R_N) (T := T_N) (N := 22) hx hb hg in_N hown hK hP 0 rfl rfl 5 (by decide) (hg _ t_623) (fun _ h9 => h9) rfl d_N_wall_120 ?_
            refine lv_iconst (v := 4) hx hb d_N_wall_123 (by decide) ?_
            refine lv_aload_n hx hb d_N_wall_124 rfl (lv_at hl 1 rfl) ?_
            refine va_get (D := (dC, dI)) (ci := 7) (v := .int (u15.1 21 0)) (C := R_N) (T := T_N) (N := 22) hx hb hg in_N hown hK hP 0 rfl rfl 6 (by decide) (hg _ t_624) (fun _ h9 => h9) rfl d_N_wall_125 ?_
            refine lv_imul hx hb d_N_wall_128 ?_
            refine lv_iconst (v := 1) hx hb d_N_wall_129 (by decide) ?_
            refine lv_iadd hx hb d_N_wall_130 ?_
            refine lv_ldc2 (v := 8) hx hb hown (hg _ t_701) d_N_wall_131 ?_
            refine lv_iload_n hx hb d_N_wall_134 rfl (lv_at hl 4 rfl) ?_
            refine lv_i2l (v := x3.toInt64) hx hb d_N_wall_135 rfl ?_
            refine lv_lmul hx hb d_N_wall_136 ?_
            obtain ⟨c16, hF⟩ := qs_in_some hF
            refine va_last hx hb hK hP hD hS 5 4 rfl rfl c16 d_N_wall_137 (fun H locs hP hD hS => ?_)
            obtain ⟨u17, hu17, hF⟩ := qs_st_some hF
            have hP : va_P (dC, dI) vwCl (ms_W h c u17) H := by rw [hu17]; exact hP
            have hD : va_D A (ms_W h c u17) := by rw [hu17]; exact hD
            clear hu17
            refine lv_aload_n hx hb d_N_wall_138 rfl (lv_at hl 1 rfl) ?_
            refine va_get (D := (dC, dI)) (ci := 7) (v := .ref (h 5)) (C := R_N) (T := T_N) (N := 22) hx hb hg in_N hown hK hP 0 rfl rfl 5 (by decide) (hg _ t_623) (fun _ h9 => h9) rfl d_N_wall_139 ?_
            refine lv_iconst (v := 4) hx hb d_N_wall_142 (by decide) ?_
            refine lv_aload_n hx hb d_N_wall_143 rfl (lv_at hl 1 rfl) ?_
            refine va_get (D := (dC, dI)) (ci := 7) (v := .int (u17.1 21 0)) (C := R_N) (T := T_N) (N := 22) hx hb hg in_N hown hK hP 0 rfl rfl 6 (by decide) (hg _ t_624) (fun _ h9 => h9) rfl d_N_wall_144 ?_
            refine lv_imul hx hb d_N_wall_147 ?_
            refine lv_iconst (v := 2) hx hb d_N_wall_148 (by decide) ?_
            refine lv_iadd hx hb d_N_wall_149 ?_
            refine lv_ldc2 (v := 8) hx hb hown (hg _ t_701) d_N_wall_150 ?_
            refine lv_iload_n hx hb d_N_wall_153 rfl (lv_at hl 3 rfl) ?_
            refine lv_i2l (v := x2.toInt64) hx hb d_N_wall_154 rfl ?_
            refine lv_lmul hx hb d_N_wall_155 ?_
            obtain ⟨c18, hF⟩ := qs_in_some hF
            refine va_last hx hb hK hP hD hS 5 4 rfl rfl c18 d_N_wall_156 (fun H locs hP hD hS => ?_)
            obtain ⟨u19, hu19, hF⟩ := qs_st_some hF
            have hP : va_P (dC, dI) vwCl (ms_W h c u19) H := by rw [hu19]; exact hP
            have hD : va_D A (ms_W h c u19) := by rw [hu19]; exact hD
            clear hu19
            refine lv_aload_n hx hb d_N_wall_157 rfl (lv_at hl 1 rfl) ?_
            refine va_get (D := (dC, dI)) (ci := 7) (v := .ref (h 5)) (C := R_N) (T := T_N) (N := 22) hx hb hg in_N hown hK hP 0 rfl rfl 5 (by decide) (hg _ t_623) (fun _ h9 => h9) rfl d_N_wall_158 ?_
            refine lv_iconst (v := 4) hx hb d_N_wall_161 (by decide) ?_
            refine lv_aload_n hx hb d_N_wall_162 rfl (lv_at hl 1 rfl) ?_
            refine va_get (D := (dC, dI)) (ci := 7) (v := .int (u19.1 21 0)) (C := R_N) (T := T_N) (N := 22) hx hb hg in_N hown hK hP 0 rfl rfl 6 (by decide) (hg _ t_624) (fun _ h9 => h9) rfl d_N_wall_163 ?_
            refine lv_imul hx hb d_N_wall_166 ?_
            refine lv_iconst (v := 3) hx hb d_N_wall_167 (by decide) ?_
            refine lv_iadd hx hb d_N_wall_168 ?_
            refine lv_ldc2 (v := 8) hx hb hown (hg _ t_701) d_N_wall_169 ?_
            refine lv_iload hx hb d_N_wall_172 (lv_at hl 5 rfl) ?_
            refine lv_i2l (v := x4.toInt64) hx hb d_N_wall_174 rfl ?_
            refine lv_lmul hx hb d_N_wall_175 ?_
            obtain ⟨c20, hF⟩ := qs_in_some hF
            refine va_last hx hb hK hP hD hS 5 4 rfl rfl c20 d_N_wall_176 (fun H locs hP hD hS => ?_)
            obtain ⟨u21, hu21, hF⟩ := qs_st_some hF
            have hP : va_P (dC, dI) vwCl (ms_W h c u21) H := by rw [hu21]; exact hP
            have hD : va_D A (ms_W h c u21) := by rw [hu21]; exact hD
            clear hu21
            refine lv_aload_n hx hb d_N_wall_177 rfl (lv_at hl 1 rfl) ?_
            refine lv_dup hx hb d_N_wall_178 rfl ?_
            refine va_get (D := (dC, dI)) (ci := 7) (v := .int (u21.1 21 0)) (C := R_N) (T := T_N) (N := 22) hx hb hg in_N hown hK hP 0 rfl rfl 6 (by decide) (hg _ t_624) (fun _ h9 => h9) rfl d_N_wall_179 ?_
            refine lv_iconst (v := 1) hx hb d_N_wall_182 (by decide) ?_
            refine lv_iadd hx hb d_N_wall_183 ?_
            refine va_put (D := (dC, dI)) (ci := 7) (v := .int ((u21.1 21 0) + 1)) (ty := .int) (C := R_N) (T := T_N) (N := 22) hx hb hg in_N ty_N ty_N_ok nm_N hown hK hP hD hS 0 rfl rfl 6 (by decide) (hg _ t_624) (fun _ h9 => h9) rfl (by decide +kernel) rfl rfl (Nat.le_of_ble_eq_true rfl) d_N_wall_184 (fun H locs hP hD hS => ?_)
            obtain ⟨u22, hu22, hF⟩ := qs_st_some hF
            have hP : va_P (dC, dI) vwCl (ms_W h c u22) H := by rw [hu22]; exact hP
            have hD : va_D A (ms_W h c u22) := by rw [hu22]; exact hD
            clear hu22
            refine lv_aload_n hx hb d_N_wall_187 rfl (lv_at hl 1 rfl) ?_
            refine va_get (D := (dC, dI)) (ci := 7) (v := .int (u22.1 21 0)) (C := R_N) (T := T_N) (N := 22) hx hb hg in_N hown hK hP 0 rfl rfl 6 (by decide) (hg _ t_624) (fun _ h9 => h9) rfl d_N_wall_188 ?_
            refine lv_iconst (v := 1) hx hb d_N_wall_191 (by decide) ?_
            refine lv_isub hx hb d_N_wall_192 ?_
            obtain ⟨h8, h9⟩ := qs_ret hF
            exact W.iret (v := (u22.1 21 0) - 1) hx hb hr (fun t ht hW => ⟨⟨((u22.1 21 0) - 1), u22, rfl, ⟨h8, h9⟩, by rw [ht]; exact hP, va_K.moved hW.alike hK, hD⟩, hS.F ht⟩) hS.2.2 d_N_wall_193
          · have hF := qs_pos c13 hF
            refine lv_aload_n hx hb d_N_wall_96 rfl (lv_at hl 1 rfl) ?_
            refine lv_iconst (v := 2) hx hb d_N_wall_97 (by decide) ?_
            obtain ⟨r23, u24, hX, hF⟩ := qs_bn_some hF
            refine qs_ci (Wd := ms_W h c) (isC := [0, 1, 2, 3, 4, 5, 6, 7, 8, 9, 10, 11, 12]) (va_runV (own := "QuakeServerModel") (C := "QuakeServerModel") (As := [.int (2)]) (rest := []) ⟨hx, hb, hml, hown, hg⟩ (c_N_fail l dC dI h c H.size g (2) r23 u24 hX) (cwV 1 hg (qs_gV t_697 t_699 tp_17 t_8 t_700) rfl rfl rfl (by decide +kernel) ⟨Nat.le_of_ble_eq_true rfl, Nat.le_of_ble_eq_true rfl⟩) ⟨qs_blind, va_recv hK hP (ci := 7) (q0 := 0) rfl rfl, fun U hU hW => ⟨rfl, by rw [hU], by rw [hU]; exact hP, va_K.moved hW.alike hK, hD.weaken (fun _ _ _ _ => trivial), hNs.warm hW⟩⟩ rfl rfl hl.1 rfl (lv_room (Nat.le_of_ble_eq_true rfl)) d_N_wall_98 ⟨Nat.le_of_ble_eq_true rfl, Nat.le_of_ble_eq_true rfl⟩) rfl hP hD hS hA (fun H locs hP hD hS => ?_)
            obtain ⟨h8, h9⟩ := qs_ret hF
            exact W.iret (v := r23) hx hb hr (fun t ht hW => ⟨⟨r23, u24, rfl, ⟨h8, h9⟩, by rw [ht]; exact hP, va_K.moved hW.alike hK, hD⟩, hS.F ht⟩) hS.2.2 d_N_wall_101
        · have hF := qs_neg c12 hF
          exact kb_81 g H locs ls hP hD hS (lv_sub hl [1] rfl) hF
  have kb_62 : ∀ (g : Sm) (x1 : Int32) (x2 : Int32) (x3 : Int32) (x4 : Int32) (H : Heap) (locs : List Loc) (ls : Array Slot), va_P (dC, dI) vwCl (ms_W h c g) H → va_D A (ms_W h c g) → va_S A s.heap H locs → lv_has ls 6 [(0, .ref (h 0)), (1, .int (x1)), (2, .int (x2)), (3, .int (x3)), (4, .int (x4))] → f_N_wall_62  g x1 x2 x3 x4 = some (r0, u0) → W p l e (headSpec (qs_ws y_N_wall b_N_wall 6 (some .int)) ({ frames := 1, cells := 0, slots := 0, locals := 22 } : Room)).room s m ([.ref (h 0), .int a1, .int a2, .int a3, .int a4] : List Value).toArray below meth cd H locs 0 0 (MQ below (va_Qi (fun (r : Int32) (u : Sm) => r = r0 ∧ u = u0) (ms_at dC dI h c A) A) ([.ref (h 0), .int a1, .int a2, .int a3, .int a4] : List Value).toArray s 0 0 A) (F0 m 62 ls []) := by
    intro g x1 x2 x3 x4 H locs ls hP hD hS hl hF
    unfold f_N_wall_62 at hF
    refine lv_iconst (v := 0) hx hb d_N_wall_62 (by decide) ?_
    exact kb_63 g (x1) (x2) (x3) (x4) (0) H locs ls hP hD hS (lv_sub hl [0, 1, 2, 3, 4] rfl) hF
  have hl := lv_entry ([.ref (h 0), .int a1, .int a2, .int a3, .int a4] : List Value) (n := 6) (Nat.le_of_ble_eq_true rfl)
  rw [lg_entry_eq]
  generalize (lg_sl ([.ref (h 0), .int a1, .int a2, .int a3, .int a4] : List Value) ++ List.replicate (6 - (lg_sl ([.ref (h 0), .int a1, .int a2, .int a3, .int a4] : List Value)).length) Slot.unset).toArray = ls at hl ⊢
  have hl : lv_has ls 6 [(0, .ref (h 0)), (1, .int (a1)), (2, .int (a2)), (3, .int (a3)), (4, .int (a4))] := hl
  unfold f_N_wall at hF
  obtain ⟨H, hHe⟩ : ∃ H, H = s.heap := ⟨_, rfl⟩
  obtain ⟨locs, hLe⟩ : ∃ L : List Loc, L = [] := ⟨_, rfl⟩
  rw [← hHe] at hP ⊢
  rw [← hLe]
  have hS : va_S A s.heap H locs := by rw [hHe, hLe]; exact hS
  refine lv_aload_n hx hb d_N_wall_0 rfl (lv_at hl 0 rfl) ?_
  refine lv_iconst (v := 0) hx hb d_N_wall_1 (by decide) ?_
  refine va_put (D := (dC, dI)) (ci := 7) (v := .int (0)) (ty := .int) (C := R_N) (T := T_N) (N := 22) hx hb hg in_N ty_N ty_N_ok nm_N hown hK hP hD hS 0 rfl rfl 0 (by decide) (hg _ t_618) (fun _ h9 => h9) rfl (by decide +kernel) rfl rfl (Nat.le_of_ble_eq_true rfl) d_N_wall_2 (fun H locs hP hD hS => ?_)
  obtain ⟨u1, hu1, hF⟩ := qs_st_some hF
  have hP : va_P (dC, dI) vwCl (ms_W h c u1) H := by rw [hu1]; exact hP
  have hD : va_D A (ms_W h c u1) := by rw [hu1]; exact hD
  clear hu1
  refine lv_iload_n hx hb d_N_wall_5 rfl (lv_at hl 1 rfl) ?_
  refine lv_sipush (v := (-1024)) hx hb d_N_wall_6 (by decide) ?_
  refine lv_sipush (v := 1024) hx hb d_N_wall_9 (by decide) ?_
  obtain ⟨r2, hX, hF⟩ := qs_pb_some hF
  refine qs_psi (va_runS (own := "QuakeServerModel") (As := [.int (a1), .int ((-1024)), .int (1024)]) (rest := []) ⟨hx, hb, hml, hown, hg⟩ (c_N_in l H.size (a1) ((-1024)) (1024) r2 hX) (va_cwS 3 hg (qs_gS t_694 t_695 t_8 t_696) rfl rfl rfl (by decide +kernel) ⟨Nat.le_of_ble_eq_true rfl, Nat.le_of_ble_eq_true rfl⟩) ⟨qs_blind0, fun U hU hW => ⟨rfl, by rw [hU], hNs.warm hW⟩⟩ rfl rfl hl.1 rfl (lv_room (Nat.le_of_ble_eq_true rfl)) d_N_wall_12 ⟨Nat.le_of_ble_eq_true rfl, Nat.le_of_ble_eq_true rfl⟩) hP hD hS hA (fun H locs hP hS => ?_)
  refine lv_if_eq (tgt := 62) hx hb d_N_wall_15 (by decide) (fun c3 => ?_) (fun c3 => ?_)
  · have hF := qs_pos c3 hF
    exact kb_62 u1 (a1) (a2) (a3) (a4) H locs ls hP hD hS (lv_sub hl [0, 1, 2, 3, 4] rfl) hF
  · have hF := qs_neg c3 hF
    refine lv_iload_n hx hb d_N_wall_18 rfl (lv_at hl 2 rfl) ?_
    refine lv_sipush (v := (-1024)) hx hb d_N_wall_19 (by decide) ?_
    refine lv_sipush (v := 1024) hx hb d_N_wall_22 (by decide) ?_
    obtain ⟨r4, hX, hF⟩ := qs_pb_some hF
    refine qs_psi (va_runS (own := "QuakeServerModel") (As := [.int (a2), .int ((-1024)), .int (1024)]) (rest := []) ⟨hx, hb, hml, hown, hg⟩ (c_N_in l H.size (a2) ((-1024)) (1024) r4 hX) (va_cwS 3 hg (qs_gS t_694 t_695 t_8 t_696) rfl rfl rfl (by decide +kernel) ⟨Nat.le_of_ble_eq_true rfl, Nat.le_of_ble_eq_true rfl⟩) ⟨qs_blind0, fun U hU hW => ⟨rfl, by rw [hU], hNs.warm hW⟩⟩ rfl rfl hl.1 rfl (lv_room (Nat.le_of_ble_eq_true rfl)) d_N_wall_25 ⟨Nat.le_of_ble_eq_true rfl, Nat.le_of_ble_eq_true rfl⟩) hP hD hS hA (fun H locs hP hS => ?_)
    refine lv_if_eq (tgt := 62) hx hb d_N_wall_28 (by decide) (fun c5 => ?_) (fun c5 => ?_)
    · have hF := qs_pos c5 hF
      exact kb_62 u1 (a1) (a2) (a3) (a4) H locs ls hP hD hS (lv_sub hl [0, 1, 2, 3, 4] rfl) hF
    · have hF := qs_neg c5 hF
      refine lv_iload_n hx hb d_N_wall_31 rfl (lv_at hl 3 rfl) ?_
      refine lv_sipush (v := (-1024)) hx hb d_N_wall_32 (by decide) ?_
      refine lv_sipush (v := 1024) hx hb d_N_wall_35 (by decide) ?_
      obtain ⟨r6, hX, hF⟩ := qs_pb_some hF
      refine qs_psi (va_runS (own := "QuakeServerModel") (As := [.int (a3), .int ((-1024)), .int (1024)]) (rest := []) ⟨hx, hb, hml, hown, hg⟩ (c_N_in l H.size (a3) ((-1024)) (1024) r6 hX) (va_cwS 3 hg (qs_gS t_694 t_695 t_8 t_696) rfl rfl rfl (by decide +kernel) ⟨Nat.le_of_ble_eq_true rfl, Nat.le_of_ble_eq_true rfl⟩) ⟨qs_blind0, fun U hU hW => ⟨rfl, by rw [hU], hNs.warm hW⟩⟩ rfl rfl hl.1 rfl (lv_room (Nat.le_of_ble_eq_true rfl)) d_N_wall_38 ⟨Nat.le_of_ble_eq_true rfl, Nat.le_of_ble_eq_true rfl⟩) hP hD hS hA (fun H locs hP hS => ?_)
      refine lv_if_eq (tgt := 62) hx hb d_N_wall_41 (by decide) (fun c7 => ?_) (fun c7 => ?_)
      · have hF := qs_pos c7 hF
        exact kb_62 u1 (a1) (a2) (a3) (a4) H locs ls hP hD hS (lv_sub hl [0, 1, 2, 3, 4] rfl) hF
      · have hF := qs_neg c7 hF
        refine lv_iload hx hb d_N_wall_44 (lv_at hl 4 rfl) ?_
        refine lv_sipush (v := (-1024)) hx hb d_N_wall_46 (by decide) ?_
        refine lv_sipush (v := 1024) hx hb d_N_wall_49 (by decide) ?_
        obtain ⟨r8, hX, hF⟩ := qs_pb_some hF
        refine qs_psi (va_runS (own := "QuakeServerModel") (As := [.int (a4), .int ((-1024)), .int (1024)]) (rest := []) ⟨hx, hb, hml, hown, hg⟩ (c_N_in l H.size (a4) ((-1024)) (1024) r8 hX) (va_cwS 3 hg (qs_gS t_694 t_695 t_8 t_696) rfl rfl rfl (by decide +kernel) ⟨Nat.le_of_ble_eq_true rfl, Nat.le_of_ble_eq_true rfl⟩) ⟨qs_blind0, fun U hU hW => ⟨rfl, by rw [hU], hNs.warm hW⟩⟩ rfl rfl hl.1 rfl (lv_room (Nat.le_of_ble_eq_true rfl)) d_N_wall_52 ⟨Nat.le_of_ble_eq_true rfl, Nat.le_of_ble_eq_true rfl⟩) hP hD hS hA (fun H locs hP hS => ?_)
        refine lv_if_eq (tgt := 62) hx hb d_N_wall_55 (by decide) (fun c9 => ?_) (fun c9 => ?_)
        · have hF := qs_pos c9 hF
          exact kb_62 u1 (a1) (a2) (a3) (a4) H locs ls hP hD hS (lv_sub hl [0, 1, 2, 3, 4] rfl) hF
        · have hF := qs_neg c9 hF
          refine lv_iconst (v := 1) hx hb d_N_wall_58 (by decide) ?_
          refine lv_goto (tgt := 63) hx hb d_N_wall_59 (by decide) ?_
          exact kb_63 u1 (a1) (a2) (a3) (a4) (1) H locs ls hP hD hS (lv_sub hl [0, 1, 2, 3, 4] rfl) hF

theorem d_N_instr_0 : decode b_N_instr 0 = .ok (.aload_n 0, 1) := by decide +kernel
theorem d_N_instr_1 : decode b_N_instr 1 = .ok (.iconst 0, 1) := by decide +kernel
theorem d_N_instr_2 : decode b_N_instr 2 = .ok (.putfield 52, 3) := by decide +kernel
theorem d_N_instr_5 : decode b_N_instr 5 = .ok (.iload_n 1, 1) := by decide +kernel
theorem d_N_instr_6 : decode b_N_instr 6 = .ok (.iconst 0, 1) := by decide +kernel
theorem d_N_instr_7 : decode b_N_instr 7 = .ok (.iconst 5, 1) := by decide +kernel
theorem d_N_instr_8 : decode b_N_instr 8 = .ok (.invokestatic 65, 3) := by decide +kernel
theorem d_N_instr_11 : decode b_N_instr 11 = .ok (.ifCond .eq 15, 3) := by decide +kernel
theorem d_N_instr_14 : decode b_N_instr 14 = .ok (.iload_n 2, 1) := by decide +kernel
theorem d_N_instr_15 : decode b_N_instr 15 = .ok (.iload_n 3, 1) := by decide +kernel
theorem d_N_instr_16 : decode b_N_instr 16 = .ok (.iload 4, 2) := by decide +kernel
theorem d_N_instr_18 : decode b_N_instr 18 = .ok (.iload 5, 2) := by decide +kernel
theorem d_N_instr_20 : decode b_N_instr 20 = .ok (.invokestatic 76, 3) := by decide +kernel
theorem d_N_instr_23 : decode b_N_instr 23 = .ok (.ifCond .ne 9, 3) := by decide +kernel
theorem d_N_instr_26 : decode b_N_instr 26 = .ok (.aload_n 0, 1) := by decide +kernel
theorem d_N_instr_27 : decode b_N_instr 27 = .ok (.iconst 1, 1) := by decide +kernel
theorem d_N_instr_28 : decode b_N_instr 28 = .ok (.invokevirtual 69, 3) := by decide +kernel
theorem d_N_instr_31 : decode b_N_instr 31 = .ok (.ireturn, 1) := by decide +kernel
theorem d_N_instr_32 : decode b_N_instr 32 = .ok (.aload_n 0, 1) := by decide +kernel
theorem d_N_instr_33 : decode b_N_instr 33 = .ok (.getfield 39, 3) := by decide +kernel
theorem d_N_instr_36 : decode b_N_instr 36 = .ok (.iload_n 1, 1) := by decide +kernel
theorem d_N_instr_37 : decode b_N_instr 37 = .ok (.iaload, 1) := by decide +kernel
theorem d_N_instr_38 : decode b_N_instr 38 = .ok (.bipush 14, 2) := by decide +kernel
theorem d_N_instr_40 : decode b_N_instr 40 = .ok (.if_icmp .ne 9, 3) := by decide +kernel
theorem d_N_instr_43 : decode b_N_instr 43 = .ok (.aload_n 0, 1) := by decide +kernel
theorem d_N_instr_44 : decode b_N_instr 44 = .ok (.iconst 2, 1) := by decide +kernel
theorem d_N_instr_45 : decode b_N_instr 45 = .ok (.invokevirtual 69, 3) := by decide +kernel
theorem d_N_instr_48 : decode b_N_instr 48 = .ok (.ireturn, 1) := by decide +kernel
theorem d_N_instr_49 : decode b_N_instr 49 = .ok (.bipush 14, 2) := by decide +kernel
theorem d_N_instr_51 : decode b_N_instr 51 = .ok (.iload_n 1, 1) := by decide +kernel
theorem d_N_instr_52 : decode b_N_instr 52 = .ok (.imul, 1) := by decide +kernel
theorem d_N_instr_53 : decode b_N_instr 53 = .ok (.aload_n 0, 1) := by decide +kernel
theorem d_N_instr_54 : decode b_N_instr 54 = .ok (.getfield 39, 3) := by decide +kernel
theorem d_N_instr_57 : decode b_N_instr 57 = .ok (.iload_n 1, 1) := by decide +kernel
theorem d_N_instr_58 : decode b_N_instr 58 = .ok (.iaload, 1) := by decide +kernel
theorem d_N_instr_59 : decode b_N_instr 59 = .ok (.iadd, 1) := by decide +kernel
theorem d_N_instr_60 : decode b_N_instr 60 = .ok (.istore 6, 2) := by decide +kernel
theorem d_N_instr_62 : decode b_N_instr 62 = .ok (.aload_n 0, 1) := by decide +kernel
theorem d_N_instr_63 : decode b_N_instr 63 = .ok (.getfield 26, 3) := by decide +kernel
theorem d_N_instr_66 : decode b_N_instr 66 = .ok (.iload 6, 2) := by decide +kernel
theorem d_N_instr_68 : decode b_N_instr 68 = .ok (.iload_n 2, 1) := by decide +kernel
theorem d_N_instr_69 : decode b_N_instr 69 = .ok (.iastore, 1) := by decide +kernel
theorem d_N_instr_70 : decode b_N_instr 70 = .ok (.aload_n 0, 1) := by decide +kernel
theorem d_N_instr_71 : decode b_N_instr 71 = .ok (.getfield 30, 3) := by decide +kernel
theorem d_N_instr_74 : decode b_N_instr 74 = .ok (.iload 6, 2) := by decide +kernel
theorem d_N_instr_76 : decode b_N_instr 76 = .ok (.iload_n 3, 1) := by decide +kernel
theorem d_N_instr_77 : decode b_N_instr 77 = .ok (.iastore, 1) := by decide +kernel
theorem d_N_instr_78 : decode b_N_instr 78 = .ok (.aload_n 0, 1) := by decide +kernel
theorem d_N_instr_79 : decode b_N_instr 79 = .ok (.getfield 33, 3) := by decide +kernel
theorem d_N_instr_82 : decode b_N_instr 82 = .ok (.iload 6, 2) := by decide +kernel
theorem d_N_instr_84 : decode b_N_instr 84 = .ok (.iload 4, 2) := by decide +kernel
theorem d_N_instr_86 : decode b_N_instr 86 = .ok (.iastore, 1) := by decide +kernel
theorem d_N_instr_87 : decode b_N_instr 87 = .ok (.aload_n 0, 1) := by decide +kernel
theorem d_N_instr_88 : decode b_N_instr 88 = .ok (.getfield 36, 3) := by decide +kernel
theorem d_N_instr_91 : decode b_N_instr 91 = .ok (.iload 6, 2) := by decide +kernel
theorem d_N_instr_93 : decode b_N_instr 93 = .ok (.iload 5, 2) := by decide +kernel
theorem d_N_instr_95 : decode b_N_instr 95 = .ok (.iastore, 1) := by decide +kernel
theorem d_N_instr_96 : decode b_N_instr 96 = .ok (.aload_n 0, 1) := by decide +kernel
theorem d_N_instr_97 : decode b_N_instr 97 = .ok (.getfield 39, 3) := by decide +kernel
theorem d_N_instr_100 : decode b_N_instr 100 = .ok (.iload_n 1, 1) := by decide +kernel
theorem d_N_instr_101 : decode b_N_instr 101 = .ok (.dup2, 1) := by decide +kernel
theorem d_N_instr_102 : decode b_N_instr 102 = .ok (.iaload, 1) := by decide +kernel
theorem d_N_instr_103 : decode b_N_instr 103 = .ok (.iconst 1, 1) := by decide +kernel
theorem d_N_instr_104 : decode b_N_instr 104 = .ok (.iadd, 1) := by decide +kernel
theorem d_N_instr_105 : decode b_N_instr 105 = .ok (.iastore, 1) := by decide +kernel
theorem d_N_instr_106 : decode b_N_instr 106 = .ok (.aload_n 0, 1) := by decide +kernel
theorem d_N_instr_107 : decode b_N_instr 107 = .ok (.getfield 39, 3) := by decide +kernel
theorem d_N_instr_110 : decode b_N_instr 110 = .ok (.iload_n 1, 1) := by decide +kernel
theorem d_N_instr_111 : decode b_N_instr 111 = .ok (.iaload, 1) := by decide +kernel
theorem d_N_instr_112 : decode b_N_instr 112 = .ok (.ireturn, 1) := by decide +kernel
def f_N_instr_26  (g : Sm) : Option (Int32 × Sm) := (qs_bn (f_N_fail g (1)) fun r23 u24 => (some (r23, u24)))
def f_N_instr (g : Sm) (a1 : Int32) (a2 : Int32) (a3 : Int32) (a4 : Int32) (a5 : Int32) : Option (Int32 × Sm) := (qs_st (qm_i g 20 (0)) fun u1 => (qs_pb (f_N_in (a1) (0) (5)) fun r2 => (if r2 = 0 then (f_N_instr_26 u1) else (qs_pb (f_N_fits (a2) (a3) (a4) (a5)) fun r4 => (if r4 = 0 then (f_N_instr_26 u1) else (qs_in (a1) 6 (if (u1.1 10 a1.toNatClampNeg) = 14 then (qs_bn (f_N_fail u1 (2)) fun r21 u22 => (some (r21, u22))) else (qs_in (a1) 6 (qs_in ((14 * a1) + (u1.1 10 a1.toNatClampNeg)) 84 (qs_st (qm_a u1 6 ((14 * a1) + (u1.1 10 a1.toNatClampNeg)).toNatClampNeg (a2)) fun u10 => (qs_in ((14 * a1) + (u1.1 10 a1.toNatClampNeg)) 84 (qs_st (qm_a u10 7 ((14 * a1) + (u1.1 10 a1.toNatClampNeg)).toNatClampNeg (a3)) fun u12 => (qs_in ((14 * a1) + (u1.1 10 a1.toNatClampNeg)) 84 (qs_st (qm_a u12 8 ((14 * a1) + (u1.1 10 a1.toNatClampNeg)).toNatClampNeg (a4)) fun u14 => (qs_in ((14 * a1) + (u1.1 10 a1.toNatClampNeg)) 84 (qs_st (qm_a u14 9 ((14 * a1) + (u1.1 10 a1.toNatClampNeg)).toNatClampNeg (a5)) fun u16 => (qs_in (a1) 6 (qs_in (a1) 6 (qs_st (qm_a u16 10 a1.toNatClampNeg ((u16.1 10 a1.toNatClampNeg) + 1)) fun u19 => (qs_in (a1) 6 (some (u19.1 10 a1.toNatClampNeg, u19))))))))))))))))))))))
set_option maxHeartbeats 4000000 in
set_option maxRecDepth 100000 in
theorem c_N_instr (l : Launch) (dC : Nat → ClassId) (dI : Nat → Nat → Nat) (h : Nat → Nat) (c : Nat → ClassId) (sz : Nat) (g : Sm) (a1 : Int32) (a2 : Int32) (a3 : Int32) (a4 : Int32) (a5 : Int32) (r0 : Int32) (u0 : Sm) (hF : f_N_instr g a1 a2 a3 a4 a5 = some (r0, u0)) : Met l y_N_instr (qs_ws y_N_instr b_N_instr 7 (some .int)) ({ frames := 2, cells := 0, slots := 0, locals := 47 } : Room) (va_Pc ([.ref (h 0), .int a1, .int a2, .int a3, .int a4, .int a5] : List Value) (fun U => U.heap.size = sz ∧ va_P (dC, dI) vwCl (ms_W h c g) U.heap ∧ va_K (dC, dI) vwCl (ms_T c) U ∧ va_D (fun _ => True) (ms_W h c g) ∧ qs_N U)) (va_Qi (fun (r : Int32) (u : Sm) => r = r0 ∧ u = u0) (ms_at dC dI h c (va_A (ms_W h c g) sz)) (va_A (ms_W h c g) sz)) 0 0 (va_A (ms_W h c g) sz) := by
  refine Met.ofW (cc := b_N_instr) (maxL := 7) (ret := (some .int)) (by decide +kernel) rfl ?_
  intro p e s m args below meth cd s₁ B hml hv
  obtain ⟨rfl, hsz, hP, hK, hD0, hNs⟩ := hv
  have hx := B.exec
  have hb := B.bytes
  have hr := B.returns
  have hts := atoms_spec (ws := (qs_ws y_N_instr b_N_instr 7 (some .int))) B.pre
  have hg : ∀ w ∈ qs_gt, w.before _ s = true := fun w h => hts w (List.mem_cons_of_mem _ h)
  have hown : s.vm.findClass R_N = some m.cls := findClass_of_methodNamed B.named
  have hlocks := B.notSynchronized
  subst hsz
  have hD := hD0.self (sz := s.heap.size)
  generalize hAe : va_A (ms_W h c g) s.heap.size = A at hD ⊢
  have hA : ∀ q : Nat, s.heap.size ≤ q → A q := fun q h => by rw [← hAe]; exact Or.inr h
  have hS : va_S A s.heap s.heap [] := va_S.rf
  have kb_26 : ∀ (g : Sm) (H : Heap) (locs : List Loc) (ls : Array Slot), va_P (dC, dI) vwCl (ms_W h c g) H → va_D A (ms_W h c g) → va_S A s.heap H locs → lv_has ls 7 [(0, .ref (h 0))] → f_N_instr_26  g = some (r0, u0) → W p l e (headSpec (qs_ws y_N_instr b_N_instr 7 (some .int)) ({ frames := 2, cells := 0, slots := 0, locals := 47 } : Room)).room s m ([.ref (h 0), .int a1, .int a2, .int a3, .int a4, .int a5] : List Value).toArray below meth cd H locs 0 0 (MQ below (va_Qi (fun (r : Int32) (u : Sm) => r = r0 ∧ u = u0) (ms_at dC dI h c A) A) ([.ref (h 0), .int a1, .int a2, .int a3, .int a4, .int a5] : List Value).toArray s 0 0 A) (F0 m 26 ls []) := by
    intro g H locs ls hP hD hS hl hF
    unfold f_N_instr_26 at hF
    refine lv_aload_n hx hb d_N_instr_26 rfl (lv_at hl 0 rfl) ?_
    refine lv_iconst (v := 1) hx hb d_N_instr_27 (by decide) ?_
    obtain ⟨r23, u24, hX, hF⟩ := qs_bn_some hF
    refine qs_ci (Wd := ms_W h c) (isC := [0, 1, 2, 3, 4, 5, 6, 7, 8, 9, 10, 11, 12]) (va_runV (own := "QuakeServerModel") (C := "QuakeServerModel") (As := [.int (1)]) (rest := []) ⟨hx, hb, hml, hown, hg⟩ (c_N_fail l dC dI h c H.size g (1) r23 u24 hX) (cwV 1 hg (qs_gV t_697 t_699 tp_17 t_8 t_700) rfl rfl rfl (by decide +kernel) ⟨Nat.le_of_ble_eq_true rfl, Nat.le_of_ble_eq_true rfl⟩) ⟨qs_blind, va_recv hK hP (ci := 7) (q0 := 0) rfl rfl, fun U hU hW => ⟨rfl, by rw [hU], by rw [hU]; exact hP, va_K.moved hW.alike hK, hD.weaken (fun _ _ _ _ => trivial), hNs.warm hW⟩⟩ rfl rfl hl.1 rfl (lv_room (Nat.le_of_ble_eq_true rfl)) d_N_instr_28 ⟨Nat.le_of_ble_eq_true rfl, Nat.le_of_ble_eq_true rfl⟩) rfl hP hD hS hA (fun H locs hP hD hS => ?_)
    obtain ⟨h8, h9⟩ := qs_ret hF
    exact W.iret (v := r23) hx hb hr (fun t ht hW => ⟨⟨r23, u24, rfl, ⟨h8, h9⟩, by rw [ht]; exact hP, va_K.moved hW.alike hK, hD⟩, hS.F ht⟩) hS.2.2 d_N_instr_31
  have hl := lv_entry ([.ref (h 0), .int a1, .int a2, .int a3, .int a4, .int a5] : List Value) (n := 7) (Nat.le_of_ble_eq_true rfl)
  rw [lg_entry_eq]
  generalize (lg_sl ([.ref (h 0), .int a1, .int a2, .int a3, .int a4, .int a5] : List Value) ++ List.replicate (7 - (lg_sl ([.ref (h 0), .int a1, .int a2, .int a3, .int a4, .int a5] : List Value)).length) Slot.unset).toArray = ls at hl ⊢
  have hl : lv_has ls 7 [(0, .ref (h 0)), (1, .int (a1)), (2, .int (a2)), (3, .int (a3)), (4, .int (a4)), (5, .int (a5))] := hl
  unfold f_N_instr at hF
  obtain ⟨H, hHe⟩ : ∃ H, H = s.heap := ⟨_, rfl⟩
  obtain ⟨locs, hLe⟩ : ∃ L : List Loc, L = [] := ⟨_, rfl⟩
  rw [← hHe] at hP ⊢
  rw [← hLe]
  have hS : va_S A s.heap H locs := by rw [hHe, hLe]; exact hS
  refine lv_aload_n hx hb d_N_instr_0 rfl (lv_at hl 0 rfl) ?_
  refine lv_iconst (v := 0) hx hb d_N_instr_1 (by decide) ?_
  refine va_put (D := (dC, dI)) (ci := 7) (v := .int (0)) (ty := .int) (C := R_N) (T := T_N) (N := 22) hx hb hg in_N ty_N ty_N_ok nm_N hown hK hP hD hS 0 rfl rfl 0 (by decide) (hg _ t_618) (fun _ h9 => h9) rfl (by decide +kernel) rfl rfl (Nat.le_of_ble_eq_true rfl) d_N_instr_2 (fun H locs hP hD hS => ?_)
  obtain ⟨u1, hu1, hF⟩ := qs_st_some hF
  have hP : va_P (dC, dI) vwCl (ms_W h c u1) H := by rw [hu1]; exact hP
  have hD : va_D A (ms_W h c u1) := by rw [hu1]; exact hD
  clear hu1
  refine lv_iload_n hx hb d_N_instr_5 rfl (lv_at hl 1 rfl) ?_
  refine lv_iconst (v := 0) hx hb d_N_instr_6 (by decide) ?_
  refine lv_iconst (v := 5) hx hb d_N_instr_7 (by decide) ?_
  obtain ⟨r2, hX, hF⟩ := qs_pb_some hF
  refine qs_psi (va_runS (own := "QuakeServerModel") (As := [.int (a1), .int (0), .int (5)]) (rest := []) ⟨hx, hb, hml, hown, hg⟩ (c_N_in l H.size (a1) (0) (5) r2 hX) (va_cwS 3 hg (qs_gS t_694 t_695 t_8 t_696) rfl rfl rfl (by decide +kernel) ⟨Nat.le_of_ble_eq_true rfl, Nat.le_of_ble_eq_true rfl⟩) ⟨qs_blind0, fun U hU hW => ⟨rfl, by rw [hU], hNs.warm hW⟩⟩ rfl rfl hl.1 rfl (lv_room (Nat.le_of_ble_eq_true rfl)) d_N_instr_8 ⟨Nat.le_of_ble_eq_true rfl, Nat.le_of_ble_eq_true rfl⟩) hP hD hS hA (fun H locs hP hS => ?_)
  refine lv_if_eq (tgt := 26) hx hb d_N_instr_11 (by decide) (fun c3 => ?_) (fun c3 => ?_)
  · have hF := qs_pos c3 hF
    exact kb_26 u1 H locs ls hP hD hS (lv_sub hl [0] rfl) hF
  · have hF := qs_neg c3 hF
    refine lv_iload_n hx hb d_N_instr_14 rfl (lv_at hl 2 rfl) ?_
    refine lv_iload_n hx hb d_N_instr_15 rfl (lv_at hl 3 rfl) ?_
    refine lv_iload hx hb d_N_instr_16 (lv_at hl 4 rfl) ?_
    refine lv_iload hx hb d_N_instr_18 (lv_at hl 5 rfl) ?_
    obtain ⟨r4, hX, hF⟩ := qs_pb_some hF
    refine qs_psi (va_runS (own := "QuakeServerModel") (As := [.int (a2), .int (a3), .int (a4), .int (a5)]) (rest := []) ⟨hx, hb, hml, hown, hg⟩ (c_N_fits l H.size (a2) (a3) (a4) (a5) r4 hX) (va_cwS 4 hg (qs_gS t_706 t_707 t_8 t_708) rfl rfl rfl (by decide +kernel) ⟨Nat.le_of_ble_eq_true rfl, Nat.le_of_ble_eq_true rfl⟩) ⟨qs_blind0, fun U hU hW => ⟨rfl, by rw [hU], hNs.warm hW⟩⟩ rfl rfl hl.1 rfl (lv_room (Nat.le_of_ble_eq_true rfl)) d_N_instr_20 ⟨Nat.le_of_ble_eq_true rfl, Nat.le_of_ble_eq_true rfl⟩) hP hD hS hA (fun H locs hP hS => ?_)
    refine lv_if_ne (tgt := 32) hx hb d_N_instr_23 (by decide) (fun c5 => ?_) (fun c5 => ?_)
    · have hF := qs_neg c5 hF
      refine lv_aload_n hx hb d_N_instr_32 rfl (lv_at hl 0 rfl) ?_
      refine va_get (D := (dC, dI)) (ci := 7) (v := .ref (h 10)) (C := R_N) (T := T_N) (N := 22) hx hb hg in_N hown hK hP 0 rfl rfl 11 (by decide) (hg _ t_629) (fun _ h9 => h9) rfl d_N_instr_33 ?_
      refine lv_iload_n hx hb d_N_instr_36 rfl (lv_at hl 1 rfl) ?_
      obtain ⟨c6, hF⟩ := qs_in_some hF
      refine va_iald hx hb hK hP 10 9 rfl rfl c6 d_N_instr_37 ?_
      refine lv_bipush (v := 14) hx hb d_N_instr_38 (by decide) ?_
      refine lv_icmp_ne (tgt := 49) hx hb d_N_instr_40 (by decide) (fun c7 => ?_) (fun c7 => ?_)
      · have hF := qs_neg c7 hF
        refine lv_bipush (v := 14) hx hb d_N_instr_49 (by decide) ?_
        refine lv_iload_n hx hb d_N_instr_51 rfl (lv_at hl 1 rfl) ?_
        refine lv_imul hx hb d_N_instr_52 ?_
        refine lv_aload_n hx hb d_N_instr_53 rfl (lv_at hl 0 rfl) ?_
        refine va_get (D := (dC, dI)) (ci := 7) (v := .ref (h 10)) (C := R_N) (T := T_N) (N := 22) hx hb hg in_N hown hK hP 0 rfl rfl 11 (by decide) (hg _ t_629) (fun _ h9 => h9) rfl d_N_instr_54 ?_
        refine lv_iload_n hx hb d_N_instr_57 rfl (lv_at hl 1 rfl) ?_
        obtain ⟨c8, hF⟩ := qs_in_some hF
        refine va_iald hx hb hK hP 10 9 rfl rfl c8 d_N_instr_58 ?_
        refine lv_iadd hx hb d_N_instr_59 ?_
        refine lv_istore (lv' := [(6, .int ((14 * a1) + (u1.1 10 a1.toNatClampNeg))), (0, .ref (h 0)), (1, .int (a1)), (2, .int (a2)), (3, .int (a3)), (4, .int (a4)), (5, .int (a5))]) hx hb d_N_instr_60 hl (by decide) rfl (fun ls hl => ?_)
        refine lv_aload_n hx hb d_N_instr_62 rfl (lv_at hl 1 rfl) ?_
        refine va_get (D := (dC, dI)) (ci := 7) (v := .ref (h 6)) (C := R_N) (T := T_N) (N := 22) hx hb hg in_N hown hK hP 0 rfl rfl 7 (by decide) (hg _ t_625) (fun _ h9 => h9) rfl d_N_instr_63 ?_
        refine lv_iload hx hb d_N_instr_66 (lv_at hl 0 rfl) ?_
        refine lv_iload_n hx hb d_N_instr_68 rfl (lv_at hl 3 rfl) ?_
        obtain ⟨c9, hF⟩ := qs_in_some hF
        refine va_iast hx hb hK hP hD hS 6 5 rfl rfl c9 d_N_instr_69 (fun H locs hP hD hS => ?_)
        obtain ⟨u10, hu10, hF⟩ := qs_st_some hF
        have hP : va_P (dC, dI) vwCl (ms_W h c u10) H := by rw [hu10]; exact hP
        have hD : va_D A (ms_W h c u10) := by rw [hu10]; exact hD
        clear hu10
        refine lv_aload_n hx hb d_N_instr_70 rfl (lv_at hl 1 rfl) ?_
        refine va_get (D := (dC, dI)) (ci := 7) (v := .ref (h 7)) (C := R_N) (T := T_N) (N := 22) hx hb hg in_N hown hK hP 0 rfl rfl 8 (by decide) (hg _ t_626) (fun _ h9 => h9) rfl d_N_instr_71 ?_
        refine lv_iload hx hb d_N_instr_74 (lv_at hl 0 rfl) ?_
        refine lv_iload_n hx hb d_N_instr_76 rfl (lv_at hl 4 rfl) ?_
        obtain ⟨c11, hF⟩ := qs_in_some hF
        refine va_iast hx hb hK hP hD hS 7 6 rfl rfl c11 d_N_instr_77 (fun H locs hP hD hS => ?_)
        obtain ⟨u12, hu12, hF⟩ := qs_st_some hF
        have hP : va_P (dC, dI) vwCl (ms_W h c u12) H := by rw [hu12]; exact hP
        have hD : va_D A (ms_W h c u12) := by rw [hu12]; exact hD
        clear hu12
        refine lv_aload_n hx hb d_N_instr_78 rfl (lv_at hl 1 rfl) ?_
        refine va_get (D := (dC, dI)) (ci := 7) (v := .ref (h 8)) (C := R_N) (T := T_N) (N := 22) hx hb hg in_N hown hK hP 0 rfl rfl 9 (by decide) (hg _ t_627) (fun _ h9 => h9) rfl d_N_instr_79 ?_
        refine lv_iload hx hb d_N_instr_82 (lv_at hl 0 rfl) ?_
        refine lv_iload hx hb d_N_instr_84 (lv_at hl 5 rfl) ?_
        obtain ⟨c13, hF⟩ := qs_in_some hF
        refine va_iast hx hb hK hP hD hS 8 7 rfl rfl c13 d_N_instr_86 (fun H locs hP hD hS => ?_)
        obtain ⟨u14, hu14, hF⟩ := qs_st_some hF
        have hP : va_P (dC, dI) vwCl (ms_W h c u14) H := by rw [hu14]; exact hP
        have hD : va_D A (ms_W h c u14) := by rw [hu14]; exact hD
        clear hu14
        refine lv_aload_n hx hb d_N_instr_87 rfl (lv_at hl 1 rfl) ?_
        refine va_get (D := (dC, dI)) (ci := 7) (v := .ref (h 9)) (C := R_N) (T := T_N) (N := 22) hx hb hg in_N hown hK hP 0 rfl rfl 10 (by decide) (hg _ t_628) (fun _ h9 => h9) rfl d_N_instr_88 ?_
        refine lv_iload hx hb d_N_instr_91 (lv_at hl 0 rfl) ?_
        refine lv_iload hx hb d_N_instr_93 (lv_at hl 6 rfl) ?_
        obtain ⟨c15, hF⟩ := qs_in_some hF
        refine va_iast hx hb hK hP hD hS 9 8 rfl rfl c15 d_N_instr_95 (fun H locs hP hD hS => ?_)
        obtain ⟨u16, hu16, hF⟩ := qs_st_some hF
        have hP : va_P (dC, dI) vwCl (ms_W h c u16) H := by rw [hu16]; exact hP
        have hD : va_D A (ms_W h c u16) := by rw [hu16]; exact hD
        clear hu16
        refine lv_aload_n hx hb d_N_instr_96 rfl (lv_at hl 1 rfl) ?_
        refine va_get (D := (dC, dI)) (ci := 7) (v := .ref (h 10)) (C := R_N) (T := T_N) (N := 22) hx hb hg in_N hown hK hP 0 rfl rfl 11 (by decide) (hg _ t_629) (fun _ h9 => h9) rfl d_N_instr_97 ?_
        refine lv_iload_n hx hb d_N_instr_100 rfl (lv_at hl 2 rfl) ?_
        refine lv_dup2_11 hx hb d_N_instr_101 rfl rfl ?_
        obtain ⟨c17, hF⟩ := qs_in_some hF
        refine va_iald hx hb hK hP 10 9 rfl rfl c17 d_N_instr_102 ?_
        refine lv_iconst (v := 1) hx hb d_N_instr_103 (by decide) ?_
        refine lv_iadd hx hb d_N_instr_104 ?_
        obtain ⟨c18, hF⟩ := qs_in_some hF
        refine va_iast hx hb hK hP hD hS 10 9 rfl rfl c18 d_N_instr_105 (fun H locs hP hD hS => ?_)
        obtain ⟨u19, hu19, hF⟩ := qs_st_some hF
        have hP : va_P (dC, dI) vwCl (ms_W h c u19) H := by rw [hu19]; exact hP
        have hD : va_D A (ms_W h c u19) := by rw [hu19]; exact hD
        clear hu19
        refine lv_aload_n hx hb d_N_instr_106 rfl (lv_at hl 1 rfl) ?_
        refine va_get (D := (dC, dI)) (ci := 7) (v := .ref (h 10)) (C := R_N) (T := T_N) (N := 22) hx hb hg in_N hown hK hP 0 rfl rfl 11 (by decide) (hg _ t_629) (fun _ h9 => h9) rfl d_N_instr_107 ?_
        refine lv_iload_n hx hb d_N_instr_110 rfl (lv_at hl 2 rfl) ?_
        obtain ⟨c20, hF⟩ := qs_in_some hF
        refine va_iald hx hb hK hP 10 9 rfl rfl c20 d_N_instr_111 ?_
        obtain ⟨h8, h9⟩ := qs_ret hF
        exact W.iret (v := u19.1 10 a1.toNatClampNeg) hx hb hr (fun t ht hW => ⟨⟨(u19.1 10 a1.toNatClampNeg), u19, rfl, ⟨h8, h9⟩, by rw [ht]; exact hP, va_K.moved hW.alike hK, hD⟩, hS.F ht⟩) hS.2.2 d_N_instr_112
      · have hF := qs_pos c7 hF
        refine lv_aload_n hx hb d_N_instr_43 rfl (lv_at hl 0 rfl) ?_
        refine lv_iconst (v := 2) hx hb d_N_instr_44 (by decide) ?_
        obtain ⟨r21, u22, hX, hF⟩ := qs_bn_some hF
        refine qs_ci (Wd := ms_W h c) (isC := [0, 1, 2, 3, 4, 5, 6, 7, 8, 9, 10, 11, 12]) (va_runV (own := "QuakeServerModel") (C := "QuakeServerModel") (As := [.int (2)]) (rest := []) ⟨hx, hb, hml, hown, hg⟩ (c_N_fail l dC dI h c H.size u1 (2) r21 u22 hX) (cwV 1 hg (qs_gV t_697 t_699 tp_17 t_8 t_700) rfl rfl rfl (by decide +kernel) ⟨Nat.le_of_ble_eq_true rfl, Nat.le_of_ble_eq_true rfl⟩) ⟨qs_blind, va_recv hK hP (ci := 7) (q0 := 0) rfl rfl, fun U hU hW => ⟨rfl, by rw [hU], by rw [hU]; exact hP, va_K.moved hW.alike hK, hD.weaken (fun _ _ _ _ => trivial), hNs.warm hW⟩⟩ rfl rfl hl.1 rfl (lv_room (Nat.le_of_ble_eq_true rfl)) d_N_instr_45 ⟨Nat.le_of_ble_eq_true rfl, Nat.le_of_ble_eq_true rfl⟩) rfl hP hD hS hA (fun H locs hP hD hS => ?_)
        obtain ⟨h8, h9⟩ := qs_ret hF
        exact W.iret (v := r21) hx hb hr (fun t ht hW => ⟨⟨r21, u22, rfl, ⟨h8, h9⟩, by rw [ht]; exact hP, va_K.moved hW.alike hK, hD⟩, hS.F ht⟩) hS.2.2 d_N_instr_48
    · have hF := qs_pos c5 hF
      exact kb_26 u1 H locs ls hP hD hS (lv_sub hl [0] rfl) hF

theorem d_N_create_0 : decode b_N_create 0 = .ok (.iconst 0, 1) := by decide +kernel
theorem d_N_create_1 : decode b_N_create 1 = .ok (.istore_n 1, 1) := by decide +kernel
theorem d_N_create_2 : decode b_N_create 2 = .ok (.iload_n 1, 1) := by decide +kernel
theorem d_N_create_3 : decode b_N_create 3 = .ok (.bipush 12, 2) := by decide +kernel
theorem d_N_create_5 : decode b_N_create 5 = .ok (.if_icmp .ge 18, 3) := by decide +kernel
theorem d_N_create_8 : decode b_N_create 8 = .ok (.aload_n 0, 1) := by decide +kernel
theorem d_N_create_9 : decode b_N_create 9 = .ok (.getfield 13, 3) := by decide +kernel
theorem d_N_create_12 : decode b_N_create 12 = .ok (.iload_n 1, 1) := by decide +kernel
theorem d_N_create_13 : decode b_N_create 13 = .ok (.baload, 1) := by decide +kernel
theorem d_N_create_14 : decode b_N_create 14 = .ok (.ifCond .eq 9, 3) := by decide +kernel
theorem d_N_create_17 : decode b_N_create 17 = .ok (.iinc 1 1, 3) := by decide +kernel
theorem d_N_create_20 : decode b_N_create 20 = .ok (.goto (-18), 3) := by decide +kernel
theorem d_N_create_23 : decode b_N_create 23 = .ok (.iload_n 1, 1) := by decide +kernel
theorem d_N_create_24 : decode b_N_create 24 = .ok (.bipush 12, 2) := by decide +kernel
theorem d_N_create_26 : decode b_N_create 26 = .ok (.if_icmp .ne 5, 3) := by decide +kernel
theorem d_N_create_29 : decode b_N_create 29 = .ok (.iconst (-1), 1) := by decide +kernel
theorem d_N_create_30 : decode b_N_create 30 = .ok (.ireturn, 1) := by decide +kernel
theorem d_N_create_31 : decode b_N_create 31 = .ok (.aload_n 0, 1) := by decide +kernel
theorem d_N_create_32 : decode b_N_create 32 = .ok (.getfield 13, 3) := by decide +kernel
theorem d_N_create_35 : decode b_N_create 35 = .ok (.iload_n 1, 1) := by decide +kernel
theorem d_N_create_36 : decode b_N_create 36 = .ok (.iconst 1, 1) := by decide +kernel
theorem d_N_create_37 : decode b_N_create 37 = .ok (.bastore, 1) := by decide +kernel
theorem d_N_create_38 : decode b_N_create 38 = .ok (.iconst 0, 1) := by decide +kernel
theorem d_N_create_39 : decode b_N_create 39 = .ok (.istore_n 2, 1) := by decide +kernel
theorem d_N_create_40 : decode b_N_create 40 = .ok (.iload_n 2, 1) := by decide +kernel
theorem d_N_create_41 : decode b_N_create 41 = .ok (.bipush 16, 2) := by decide +kernel
theorem d_N_create_43 : decode b_N_create 43 = .ok (.if_icmp .ge 21, 3) := by decide +kernel
theorem d_N_create_46 : decode b_N_create 46 = .ok (.aload_n 0, 1) := by decide +kernel
theorem d_N_create_47 : decode b_N_create 47 = .ok (.getfield 7, 3) := by decide +kernel
theorem d_N_create_50 : decode b_N_create 50 = .ok (.bipush 16, 2) := by decide +kernel
theorem d_N_create_52 : decode b_N_create 52 = .ok (.iload_n 1, 1) := by decide +kernel
theorem d_N_create_53 : decode b_N_create 53 = .ok (.imul, 1) := by decide +kernel
theorem d_N_create_54 : decode b_N_create 54 = .ok (.iload_n 2, 1) := by decide +kernel
theorem d_N_create_55 : decode b_N_create 55 = .ok (.iadd, 1) := by decide +kernel
theorem d_N_create_56 : decode b_N_create 56 = .ok (.lconst 0, 1) := by decide +kernel
theorem d_N_create_57 : decode b_N_create 57 = .ok (.lastore, 1) := by decide +kernel
theorem d_N_create_58 : decode b_N_create 58 = .ok (.iinc 2 1, 3) := by decide +kernel
theorem d_N_create_61 : decode b_N_create 61 = .ok (.goto (-21), 3) := by decide +kernel
theorem d_N_create_64 : decode b_N_create 64 = .ok (.iload_n 1, 1) := by decide +kernel
theorem d_N_create_65 : decode b_N_create 65 = .ok (.ireturn, 1) := by decide +kernel
def f_N_create_40  : Nat → Sm → Int32 → Int32 → Option (Int32 × Sm)
  | 0, _, _, _ => none
  | n + 1, g, x1, x2 => (if 16 ≤ x2 then (some (x1, g)) else (qs_in ((16 * x1) + x2) 192 (qs_st (qm_la g 1 ((16 * x1) + x2).toNatClampNeg ((0 : Int64))) fun u9 => (f_N_create_40 n u9 (x1) (x2 + 1)))))
def f_N_create_23  (g : Sm) (x1 : Int32) : Option (Int32 × Sm) := (if x1 = 12 then (some ((-1), g)) else (qs_in (x1) 12 (qs_st (qm_a g 2 x1.toNatClampNeg (vp_nar .boolean (1 : Int32))) fun u6 => (f_N_create_40 200 u6 (x1) (0)))))
def f_N_create_2  : Nat → Sm → Int32 → Option (Int32 × Sm)
  | 0, _, _ => none
  | n + 1, g, x1 => (if 12 ≤ x1 then (f_N_create_23 g (x1)) else (qs_in (x1) 12 (if (g.1 2 x1.toNatClampNeg) = 0 then (f_N_create_23 g (x1)) else (f_N_create_2 n g (x1 + 1)))))
def f_N_create (g : Sm)  : Option (Int32 × Sm) := (f_N_create_2 200 g (0))
set_option maxHeartbeats 4000000 in
set_option maxRecDepth 100000 in
theorem c_N_create (l : Launch) (dC : Nat → ClassId) (dI : Nat → Nat → Nat) (h : Nat → Nat) (c : Nat → ClassId) (sz : Nat) (g : Sm)  (r0 : Int32) (u0 : Sm) (hF : f_N_create g  = some (r0, u0)) : Met l y_N_create (qs_ws y_N_create b_N_create 3 (some .int)) ({ frames := 0, cells := 0, slots := 0, locals := 0 } : Room) (va_Pc ([.ref (h 0)] : List Value) (fun U => U.heap.size = sz ∧ va_P (dC, dI) vwCl (ms_W h c g) U.heap ∧ va_K (dC, dI) vwCl (ms_T c) U ∧ va_D (fun _ => True) (ms_W h c g) ∧ qs_N U)) (va_Qi (fun (r : Int32) (u : Sm) => r = r0 ∧ u = u0) (ms_at dC dI h c (va_A (ms_W h c g) sz)) (va_A (ms_W h c g) sz)) 0 0 (va_A (ms_W h c g) sz) := by
  refine Met.ofW (cc := b_N_create) (maxL := 3) (ret := (some .int)) (by decide +kernel) rfl ?_
  intro p e s m args below meth cd s₁ B hml hv
  obtain ⟨rfl, hsz, hP, hK, hD0, hNs⟩ := hv
  have hx := B.exec
  have hb := B.bytes
  have hr := B.returns
  have hts := atoms_spec (ws := (qs_ws y_N_create b_N_create 3 (some .int))) B.pre
  have hg : ∀ w ∈ qs_gt, w.before _ s = true := fun w h => hts w (List.mem_cons_of_mem _ h)
  have hown : s.vm.findClass R_N = some m.cls := findClass_of_methodNamed B.named
  have hlocks := B.notSynchronized
  subst hsz
  have hD := hD0.self (sz := s.heap.size)
  generalize hAe : va_A (ms_W h c g) s.heap.size = A at hD ⊢
  have hA : ∀ q : Nat, s.heap.size ≤ q → A q := fun q h => by rw [← hAe]; exact Or.inr h
  have hS : va_S A s.heap s.heap [] := va_S.rf
  have kb_40 : ∀ n : Nat, ∀ (g : Sm) (x1 : Int32) (x2 : Int32) (H : Heap) (locs : List Loc) (ls : Array Slot), va_P (dC, dI) vwCl (ms_W h c g) H → va_D A (ms_W h c g) → va_S A s.heap H locs → lv_has ls 3 [(0, .ref (h 0)), (1, .int (x1)), (2, .int (x2))] → f_N_create_40 n g x1 x2 = some (r0, u0) → W p l e (headSpec (qs_ws y_N_create b_N_create 3 (some .int)) ({ frames := 0, cells := 0, slots := 0, locals := 0 } : Room)).room s m ([.ref (h 0)] : List Value).toArray below meth cd H locs 0 0 (MQ below (va_Qi (fun (r : Int32) (u : Sm) => r = r0 ∧ u = u0) (ms_at dC dI h c A) A) ([.ref (h 0)] : List Value).toArray s 0 0 A) (F0 m 40 ls []) := by
    intro n
    induction n with
    | zero =>
      intro g x1 x2 H locs ls hP hD hS hl hF
      exact nomatch (show (none : Option (Int32 × Sm)) = some _ from hF)
    | succ n ih =>
      intro g x1 x2 H locs ls hP hD hS hl hF
      rw [f_N_create_40] at hF
      refine lv_iload_n hx hb d_N_create_40 rfl (lv_at hl 2 rfl) ?_
      refine lv_bipush (v := 16) hx hb d_N_create_41 (by decide) ?_
      refine lv_icmp_ge (tgt := 64) hx hb d_N_create_43 (by decide) (fun c7 => ?_) (fun c7 => ?_)
      · have hF := qs_pos c7 hF
        refine lv_iload_n hx hb d_N_create_64 rfl (lv_at hl 1 rfl) ?_
        obtain ⟨h8, h9⟩ := qs_ret hF
        exact W.iret (v := x1) hx hb hr (fun t ht hW => ⟨⟨x1, g, rfl, ⟨h8, h9⟩, by rw [ht]; exact hP, va_K.moved hW.alike hK, hD⟩, hS.F ht⟩) hS.2.2 d_N_create_65
      · have hF := qs_neg c7 hF
        refine lv_aload_n hx hb d_N_create_46 rfl (lv_at hl 0 rfl) ?_
        refine va_get (D := (dC, dI)) (ci := 7) (v := .ref (h 1)) (C := R_N) (T := T_N) (N := 22) hx hb hg in_N hown hK hP 0 rfl rfl 1 (by decide) (hg _ t_619) (fun _ h9 => h9) rfl d_N_create_47 ?_
        refine lv_bipush (v := 16) hx hb d_N_create_50 (by decide) ?_
        refine lv_iload_n hx hb d_N_create_52 rfl (lv_at hl 1 rfl) ?_
        refine lv_imul hx hb d_N_create_53 ?_
        refine lv_iload_n hx hb d_N_create_54 rfl (lv_at hl 2 rfl) ?_
        refine lv_iadd hx hb d_N_create_55 ?_
        refine lv_lconst (v := 0) hx hb d_N_create_56 (by decide) ?_
        obtain ⟨c8, hF⟩ := qs_in_some hF
        refine va_last hx hb hK hP hD hS 1 0 rfl rfl c8 d_N_create_57 (fun H locs hP hD hS => ?_)
        obtain ⟨u9, hu9, hF⟩ := qs_st_some hF
        have hP : va_P (dC, dI) vwCl (ms_W h c u9) H := by rw [hu9]; exact hP
        have hD : va_D A (ms_W h c u9) := by rw [hu9]; exact hD
        clear hu9
        refine lv_iinc (v := x2 + 1) (lv' := [(2, .int (x2 + 1)), (0, .ref (h 0)), (1, .int (x1))]) hx hb d_N_create_58 hl (k := 2) rfl (by rfl) (by decide) rfl (fun ls hl => ?_)
        refine lv_goto (tgt := 40) hx hb d_N_create_61 (by decide) ?_
        exact ih u9 (x1) (x2 + 1) H locs ls hP hD hS (lv_sub hl [1, 2, 0] rfl) hF
  have kb_23 : ∀ (g : Sm) (x1 : Int32) (H : Heap) (locs : List Loc) (ls : Array Slot), va_P (dC, dI) vwCl (ms_W h c g) H → va_D A (ms_W h c g) → va_S A s.heap H locs → lv_has ls 3 [(0, .ref (h 0)), (1, .int (x1))] → f_N_create_23  g x1 = some (r0, u0) → W p l e (headSpec (qs_ws y_N_create b_N_create 3 (some .int)) ({ frames := 0, cells := 0, slots := 0, locals := 0 } : Room)).room s m ([.ref (h 0)] : List Value).toArray below meth cd H locs 0 0 (MQ below (va_Qi (fun (r : Int32) (u : Sm) => r = r0 ∧ u = u0) (ms_at dC dI h c A) A) ([.ref (h 0)] : List Value).toArray s 0 0 A) (F0 m 23 ls []) := by
    intro g x1 H locs ls hP hD hS hl hF
    unfold f_N_create_23 at hF
    refine lv_iload_n hx hb d_N_create_23 rfl (lv_at hl 1 rfl) ?_
    refine lv_bipush (v := 12) hx hb d_N_create_24 (by decide) ?_
    refine lv_icmp_ne (tgt := 31) hx hb d_N_create_26 (by decide) (fun c4 => ?_) (fun c4 => ?_)
    · have hF := qs_neg c4 hF
      refine lv_aload_n hx hb d_N_create_31 rfl (lv_at hl 0 rfl) ?_
      refine va_get (D := (dC, dI)) (ci := 7) (v := .ref (h 2)) (C := R_N) (T := T_N) (N := 22) hx hb hg in_N hown hK hP 0 rfl rfl 2 (by decide) (hg _ t_620) (fun _ h9 => h9) rfl d_N_create_32 ?_
      refine lv_iload_n hx hb d_N_create_35 rfl (lv_at hl 1 rfl) ?_
      refine lv_iconst (v := 1) hx hb d_N_create_36 (by decide) ?_
      obtain ⟨c5, hF⟩ := qs_in_some hF
      refine va_zast hx hb hK hP hD hS 2 1 rfl rfl c5 d_N_create_37 (fun H locs hP hD hS => ?_)
      obtain ⟨u6, hu6, hF⟩ := qs_st_some hF
      have hP : va_P (dC, dI) vwCl (ms_W h c u6) H := by rw [hu6]; exact hP
      have hD : va_D A (ms_W h c u6) := by rw [hu6]; exact hD
      clear hu6
      refine lv_iconst (v := 0) hx hb d_N_create_38 (by decide) ?_
      refine lv_istore_n (lv' := [(2, .int (0)), (0, .ref (h 0)), (1, .int (x1))]) hx hb d_N_create_39 rfl hl (by decide) rfl (fun ls hl => ?_)
      exact kb_40 200 u6 (x1) (0) H locs ls hP hD hS (lv_sub hl [1, 2, 0] rfl) hF
    · have hF := qs_pos c4 hF
      refine lv_iconst (v := (-1)) hx hb d_N_create_29 (by decide) ?_
      obtain ⟨h8, h9⟩ := qs_ret hF
      exact W.iret (v := (-1)) hx hb hr (fun t ht hW => ⟨⟨(-1), g, rfl, ⟨h8, h9⟩, by rw [ht]; exact hP, va_K.moved hW.alike hK, hD⟩, hS.F ht⟩) hS.2.2 d_N_create_30
  have kb_2 : ∀ n : Nat, ∀ (g : Sm) (x1 : Int32) (H : Heap) (locs : List Loc) (ls : Array Slot), va_P (dC, dI) vwCl (ms_W h c g) H → va_D A (ms_W h c g) → va_S A s.heap H locs → lv_has ls 3 [(0, .ref (h 0)), (1, .int (x1))] → f_N_create_2 n g x1 = some (r0, u0) → W p l e (headSpec (qs_ws y_N_create b_N_create 3 (some .int)) ({ frames := 0, cells := 0, slots := 0, locals := 0 } : Room)).room s m ([.ref (h 0)] : List Value).toArray below meth cd H locs 0 0 (MQ below (va_Qi (fun (r : Int32) (u : Sm) => r = r0 ∧ u = u0) (ms_at dC dI h c A) A) ([.ref (h 0)] : List Value).toArray s 0 0 A) (F0 m 2 ls []) := by
    intro n
    induction n with
    | zero =>
      intro g x1 H locs ls hP hD hS hl hF
      exact nomatch (show (none : Option (Int32 × Sm)) = some _ from hF)
    | succ n ih =>
      intro g x1 H locs ls hP hD hS hl hF
      rw [f_N_create_2] at hF
      refine lv_iload_n hx hb d_N_create_2 rfl (lv_at hl 1 rfl) ?_
      refine lv_bipush (v := 12) hx hb d_N_create_3 (by decide) ?_
      refine lv_icmp_ge (tgt := 23) hx hb d_N_create_5 (by decide) (fun c1 => ?_) (fun c1 => ?_)
      · have hF := qs_pos c1 hF
        exact kb_23 g (x1) H locs ls hP hD hS (lv_sub hl [0, 1] rfl) hF
      · have hF := qs_neg c1 hF
        refine lv_aload_n hx hb d_N_create_8 rfl (lv_at hl 0 rfl) ?_
        refine va_get (D := (dC, dI)) (ci := 7) (v := .ref (h 2)) (C := R_N) (T := T_N) (N := 22) hx hb hg in_N hown hK hP 0 rfl rfl 2 (by decide) (hg _ t_620) (fun _ h9 => h9) rfl d_N_create_9 ?_
        refine lv_iload_n hx hb d_N_create_12 rfl (lv_at hl 1 rfl) ?_
        obtain ⟨c2, hF⟩ := qs_in_some hF
        refine va_zald hx hb hK hP 2 1 rfl rfl c2 d_N_create_13 ?_
        refine lv_if_eq (tgt := 23) hx hb d_N_create_14 (by decide) (fun c3 => ?_) (fun c3 => ?_)
        · have hF := qs_pos c3 hF
          exact kb_23 g (x1) H locs ls hP hD hS (lv_sub hl [0, 1] rfl) hF
        · have hF := qs_neg c3 hF
          refine lv_iinc (v := x1 + 1) (lv' := [(1, .int (x1 + 1)), (0, .ref (h 0))]) hx hb d_N_create_17 hl (k := 1) rfl (by rfl) (by decide) rfl (fun ls hl => ?_)
          refine lv_goto (tgt := 2) hx hb d_N_create_20 (by decide) ?_
          exact ih g (x1 + 1) H locs ls hP hD hS (lv_sub hl [1, 0] rfl) hF
  have hl := lv_entry ([.ref (h 0)] : List Value) (n := 3) (Nat.le_of_ble_eq_true rfl)
  rw [lg_entry_eq]
  generalize (lg_sl ([.ref (h 0)] : List Value) ++ List.replicate (3 - (lg_sl ([.ref (h 0)] : List Value)).length) Slot.unset).toArray = ls at hl ⊢
  have hl : lv_has ls 3 [(0, .ref (h 0))] := hl
  unfold f_N_create at hF
  obtain ⟨H, hHe⟩ : ∃ H, H = s.heap := ⟨_, rfl⟩
  obtain ⟨locs, hLe⟩ : ∃ L : List Loc, L = [] := ⟨_, rfl⟩
  rw [← hHe] at hP ⊢
  rw [← hLe]
  have hS : va_S A s.heap H locs := by rw [hHe, hLe]; exact hS
  refine lv_iconst (v := 0) hx hb d_N_create_0 (by decide) ?_
  refine lv_istore_n (lv' := [(1, .int (0)), (0, .ref (h 0))]) hx hb d_N_create_1 rfl hl (by decide) rfl (fun ls hl => ?_)
  exact kb_2 200 g (0) H locs ls hP hD hS (lv_sub hl [1, 0] rfl) hF

theorem d_N_spawn_0 : decode b_N_spawn 0 = .ok (.aload_n 0, 1) := by decide +kernel
theorem d_N_spawn_1 : decode b_N_spawn 1 = .ok (.iconst 0, 1) := by decide +kernel
theorem d_N_spawn_2 : decode b_N_spawn 2 = .ok (.putfield 52, 3) := by decide +kernel
theorem d_N_spawn_5 : decode b_N_spawn 5 = .ok (.dload_n 1, 1) := by decide +kernel
theorem d_N_spawn_6 : decode b_N_spawn 6 = .ok (.invokestatic 86, 3) := by decide +kernel
theorem d_N_spawn_9 : decode b_N_spawn 9 = .ok (.ifCond .eq 18, 3) := by decide +kernel
theorem d_N_spawn_12 : decode b_N_spawn 12 = .ok (.dload_n 3, 1) := by decide +kernel
theorem d_N_spawn_13 : decode b_N_spawn 13 = .ok (.invokestatic 86, 3) := by decide +kernel
theorem d_N_spawn_16 : decode b_N_spawn 16 = .ok (.ifCond .eq 11, 3) := by decide +kernel
theorem d_N_spawn_19 : decode b_N_spawn 19 = .ok (.dload 5, 2) := by decide +kernel
theorem d_N_spawn_21 : decode b_N_spawn 21 = .ok (.invokestatic 86, 3) := by decide +kernel
theorem d_N_spawn_24 : decode b_N_spawn 24 = .ok (.ifCond .ne 9, 3) := by decide +kernel
theorem d_N_spawn_27 : decode b_N_spawn 27 = .ok (.aload_n 0, 1) := by decide +kernel
theorem d_N_spawn_28 : decode b_N_spawn 28 = .ok (.iconst 1, 1) := by decide +kernel
theorem d_N_spawn_29 : decode b_N_spawn 29 = .ok (.invokevirtual 69, 3) := by decide +kernel
theorem d_N_spawn_32 : decode b_N_spawn 32 = .ok (.ireturn, 1) := by decide +kernel
theorem d_N_spawn_33 : decode b_N_spawn 33 = .ok (.aload_n 0, 1) := by decide +kernel
theorem d_N_spawn_34 : decode b_N_spawn 34 = .ok (.invokevirtual 90, 3) := by decide +kernel
theorem d_N_spawn_37 : decode b_N_spawn 37 = .ok (.istore 7, 2) := by decide +kernel
theorem d_N_spawn_39 : decode b_N_spawn 39 = .ok (.iload 7, 2) := by decide +kernel
theorem d_N_spawn_41 : decode b_N_spawn 41 = .ok (.ifCond .ge 9, 3) := by decide +kernel
theorem d_N_spawn_44 : decode b_N_spawn 44 = .ok (.aload_n 0, 1) := by decide +kernel
theorem d_N_spawn_45 : decode b_N_spawn 45 = .ok (.iconst 2, 1) := by decide +kernel
theorem d_N_spawn_46 : decode b_N_spawn 46 = .ok (.invokevirtual 69, 3) := by decide +kernel
theorem d_N_spawn_49 : decode b_N_spawn 49 = .ok (.ireturn, 1) := by decide +kernel
theorem d_N_spawn_50 : decode b_N_spawn 50 = .ok (.aload_n 0, 1) := by decide +kernel
theorem d_N_spawn_51 : decode b_N_spawn 51 = .ok (.getfield 7, 3) := by decide +kernel
theorem d_N_spawn_54 : decode b_N_spawn 54 = .ok (.bipush 16, 2) := by decide +kernel
theorem d_N_spawn_56 : decode b_N_spawn 56 = .ok (.iload 7, 2) := by decide +kernel
theorem d_N_spawn_58 : decode b_N_spawn 58 = .ok (.imul, 1) := by decide +kernel
theorem d_N_spawn_59 : decode b_N_spawn 59 = .ok (.dload_n 1, 1) := by decide +kernel
theorem d_N_spawn_60 : decode b_N_spawn 60 = .ok (.invokestatic 94, 3) := by decide +kernel
theorem d_N_spawn_63 : decode b_N_spawn 63 = .ok (.lastore, 1) := by decide +kernel
theorem d_N_spawn_64 : decode b_N_spawn 64 = .ok (.aload_n 0, 1) := by decide +kernel
theorem d_N_spawn_65 : decode b_N_spawn 65 = .ok (.getfield 7, 3) := by decide +kernel
theorem d_N_spawn_68 : decode b_N_spawn 68 = .ok (.bipush 16, 2) := by decide +kernel
theorem d_N_spawn_70 : decode b_N_spawn 70 = .ok (.iload 7, 2) := by decide +kernel
theorem d_N_spawn_72 : decode b_N_spawn 72 = .ok (.imul, 1) := by decide +kernel
theorem d_N_spawn_73 : decode b_N_spawn 73 = .ok (.iconst 1, 1) := by decide +kernel
theorem d_N_spawn_74 : decode b_N_spawn 74 = .ok (.iadd, 1) := by decide +kernel
theorem d_N_spawn_75 : decode b_N_spawn 75 = .ok (.dload_n 3, 1) := by decide +kernel
theorem d_N_spawn_76 : decode b_N_spawn 76 = .ok (.invokestatic 94, 3) := by decide +kernel
theorem d_N_spawn_79 : decode b_N_spawn 79 = .ok (.lastore, 1) := by decide +kernel
theorem d_N_spawn_80 : decode b_N_spawn 80 = .ok (.aload_n 0, 1) := by decide +kernel
theorem d_N_spawn_81 : decode b_N_spawn 81 = .ok (.getfield 7, 3) := by decide +kernel
theorem d_N_spawn_84 : decode b_N_spawn 84 = .ok (.bipush 16, 2) := by decide +kernel
theorem d_N_spawn_86 : decode b_N_spawn 86 = .ok (.iload 7, 2) := by decide +kernel
theorem d_N_spawn_88 : decode b_N_spawn 88 = .ok (.imul, 1) := by decide +kernel
theorem d_N_spawn_89 : decode b_N_spawn 89 = .ok (.iconst 4, 1) := by decide +kernel
theorem d_N_spawn_90 : decode b_N_spawn 90 = .ok (.iadd, 1) := by decide +kernel
theorem d_N_spawn_91 : decode b_N_spawn 91 = .ok (.dload 5, 2) := by decide +kernel
theorem d_N_spawn_93 : decode b_N_spawn 93 = .ok (.invokestatic 94, 3) := by decide +kernel
theorem d_N_spawn_96 : decode b_N_spawn 96 = .ok (.lastore, 1) := by decide +kernel
theorem d_N_spawn_97 : decode b_N_spawn 97 = .ok (.iload 7, 2) := by decide +kernel
theorem d_N_spawn_99 : decode b_N_spawn 99 = .ok (.ireturn, 1) := by decide +kernel
def f_N_spawn_27  (g : Sm) : Option (Int32 × Sm) := (qs_bn (f_N_fail g (1)) fun r22 u23 => (some (r22, u23)))
def f_N_spawn (g : Sm) (a1 : UInt64) (a2 : UInt64) (a3 : UInt64) : Option (Int32 × Sm) := (qs_st (qm_i g 20 (0)) fun u1 => (qs_pb (f_N_number (a1)) fun r2 => (if r2 = 0 then (f_N_spawn_27 u1) else (qs_pb (f_N_number (a2)) fun r4 => (if r4 = 0 then (f_N_spawn_27 u1) else (qs_pb (f_N_number (a3)) fun r6 => (if r6 = 0 then (f_N_spawn_27 u1) else (qs_bn (f_N_create u1 ) fun r8 u9 => (if 0 ≤ r8 then (qs_pb (f_N_eighths (a1)) fun r11 => (qs_in (16 * r8) 192 (qs_st (qm_la u9 1 (16 * r8).toNatClampNeg (r11)) fun u13 => (qs_pb (f_N_eighths (a2)) fun r14 => (qs_in ((16 * r8) + 1) 192 (qs_st (qm_la u13 1 ((16 * r8) + 1).toNatClampNeg (r14)) fun u16 => (qs_pb (f_N_eighths (a3)) fun r17 => (qs_in ((16 * r8) + 4) 192 (qs_st (qm_la u16 1 ((16 * r8) + 4).toNatClampNeg (r17)) fun u19 => (some (r8, u19))))))))))) else (qs_bn (f_N_fail u9 (2)) fun r20 u21 => (some (r20, u21))))))))))))
set_option maxHeartbeats 4000000 in
set_option maxRecDepth 100000 in
theorem c_N_spawn (l : Launch) (dC : Nat → ClassId) (dI : Nat → Nat → Nat) (h : Nat → Nat) (c : Nat → ClassId) (sz : Nat) (g : Sm) (a1 : UInt64) (a2 : UInt64) (a3 : UInt64) (r0 : Int32) (u0 : Sm) (hF : f_N_spawn g a1 a2 a3 = some (r0, u0)) : Met l y_N_spawn (qs_ws y_N_spawn b_N_spawn 8 (some .int)) ({ frames := 1, cells := 0, slots := 0, locals := 22 } : Room) (va_Pc ([.ref (h 0), .double a1, .double a2, .double a3] : List Value) (fun U => U.heap.size = sz ∧ va_P (dC, dI) vwCl (ms_W h c g) U.heap ∧ va_K (dC, dI) vwCl (ms_T c) U ∧ va_D (fun _ => True) (ms_W h c g) ∧ qs_N U)) (va_Qi (fun (r : Int32) (u : Sm) => r = r0 ∧ u = u0) (ms_at dC dI h c (va_A (ms_W h c g) sz)) (va_A (ms_W h c g) sz)) 0 0 (va_A (ms_W h c g) sz) := by
  refine Met.ofW (cc := b_N_spawn) (maxL := 8) (ret := (some .int)) (by decide +kernel) rfl ?_
  intro p e s m args below meth cd s₁ B hml hv
  obtain ⟨rfl, hsz, hP, hK, hD0, hNs⟩ := hv
  have hx := B.exec
  have hb := B.bytes
  have hr := B.returns
  have hts := atoms_spec (ws := (qs_ws y_N_spawn b_N_spawn 8 (some .int))) B.pre
  have hg : ∀ w ∈ qs_gt, w.before _ s = true := fun w h => hts w (List.mem_cons_of_mem _ h)
  have hown : s.vm.findClass R_N = some m.cls := findClass_of_methodNamed B.named
  have hlocks := B.notSynchronized
  subst hsz
  have hD := hD0.self (sz := s.heap.size)
  generalize hAe : va_A (ms_W h c g) s.heap.size = A at hD ⊢
  have hA : ∀ q : Nat, s.heap.size ≤ q → A q := fun q h => by rw [← hAe]; exact Or.inr h
  have hS : va_S A s.heap s.heap [] := va_S.rf
  have kb_27 : ∀ (g : Sm) (H : Heap) (locs : List Loc) (ls : Array Slot), va_P (dC, dI) vwCl (ms_W h c g) H → va_D A (ms_W h c g) → va_S A s.heap H locs → lv_has ls 8 [(0, .ref (h 0))] → f_N_spawn_27  g = some (r0, u0) → W p l e (headSpec (qs_ws y_N_spawn b_N_spawn 8 (some .int)) ({ frames := 1, cells := 0, slots := 0, locals := 22 } : Room)).room s m ([.ref (h 0), .double a1, .double a2, .double a3] : List Value).toArray below meth cd H locs 0 0 (MQ below (va_Qi (fun (r : Int32) (u : Sm) => r = r0 ∧ u = u0) (ms_at dC dI h c A) A) ([.ref (h 0), .double a1, .double a2, .double a3] : List Value).toArray s 0 0 A) (F0 m 27 ls []) := by
    intro g H locs ls hP hD hS hl hF
    unfold f_N_spawn_27 at hF
    refine lv_aload_n hx hb d_N_spawn_27 rfl (lv_at hl 0 rfl) ?_
    refine lv_iconst (v := 1) hx hb d_N_spawn_28 (by decide) ?_
    obtain ⟨r22, u23, hX, hF⟩ := qs_bn_some hF
    refine qs_ci (Wd := ms_W h c) (isC := [0, 1, 2, 3, 4, 5, 6, 7, 8, 9, 10, 11, 12]) (va_runV (own := "QuakeServerModel") (C := "QuakeServerModel") (As := [.int (1)]) (rest := []) ⟨hx, hb, hml, hown, hg⟩ (c_N_fail l dC dI h c H.size g (1) r22 u23 hX) (cwV 1 hg (qs_gV t_697 t_699 tp_17 t_8 t_700) rfl rfl rfl (by decide +kernel) ⟨Nat.le_of_ble_eq_true rfl, Nat.le_of_ble_eq_true rfl⟩) ⟨qs_blind, va_recv hK hP (ci := 7) (q0 := 0) rfl rfl, fun U hU hW => ⟨rfl, by rw [hU], by rw [hU]; exact hP, va_K.moved hW.alike hK, hD.weaken (fun _ _ _ _ => trivial), hNs.warm hW⟩⟩ rfl rfl hl.1 rfl (lv_room (Nat.le_of_ble_eq_true rfl)) d_N_spawn_29 ⟨Nat.le_of_ble_eq_true rfl, Nat.le_of_ble_eq_true rfl⟩) rfl hP hD hS hA (fun H locs hP hD hS => ?_)
    obtain ⟨h8, h9⟩ := qs_ret hF
    exact W.iret (v := r22) hx hb hr (fun t ht hW => ⟨⟨r22, u23, rfl, ⟨h8, h9⟩, by rw [ht]; exact hP, va_K.moved hW.alike hK, hD⟩, hS.F ht⟩) hS.2.2 d_N_spawn_32
  have hl := lv_entry ([.ref (h 0), .double a1, .double a2, .double a3] : List Value) (n := 8) (Nat.le_of_ble_eq_true rfl)
  rw [lg_entry_eq]
  generalize (lg_sl ([.ref (h 0), .double a1, .double a2, .double a3] : List Value) ++ List.replicate (8 - (lg_sl ([.ref (h 0), .double a1, .double a2, .double a3] : List Value)).length) Slot.unset).toArray = ls at hl ⊢
  have hl : lv_has ls 8 [(0, .ref (h 0)), (1, .double (a1)), (3, .double (a2)), (5, .double (a3))] := hl
  unfold f_N_spawn at hF
  obtain ⟨H, hHe⟩ : ∃ H, H = s.heap := ⟨_, rfl⟩
  obtain ⟨locs, hLe⟩ : ∃ L : List Loc, L = [] := ⟨_, rfl⟩
  rw [← hHe] at hP ⊢
  rw [← hLe]
  have hS : va_S A s.heap H locs := by rw [hHe, hLe]; exact hS
  refine lv_aload_n hx hb d_N_spawn_0 rfl (lv_at hl 0 rfl) ?_
  refine lv_iconst (v := 0) hx hb d_N_spawn_1 (by decide) ?_
  refine va_put (D := (dC, dI)) (ci := 7) (v := .int (0)) (ty := .int) (C := R_N) (T := T_N) (N := 22) hx hb hg in_N ty_N ty_N_ok nm_N hown hK hP hD hS 0 rfl rfl 0 (by decide) (hg _ t_618) (fun _ h9 => h9) rfl (by decide +kernel) rfl rfl (Nat.le_of_ble_eq_true rfl) d_N_spawn_2 (fun H locs hP hD hS => ?_)
  obtain ⟨u1, hu1, hF⟩ := qs_st_some hF
  have hP : va_P (dC, dI) vwCl (ms_W h c u1) H := by rw [hu1]; exact hP
  have hD : va_D A (ms_W h c u1) := by rw [hu1]; exact hD
  clear hu1
  refine lv_dload_n hx hb d_N_spawn_5 rfl (lv_at hl 1 rfl) ?_
  obtain ⟨r2, hX, hF⟩ := qs_pb_some hF
  refine qs_psi (va_runS (own := "QuakeServerModel") (As := [.double (a1)]) (rest := []) ⟨hx, hb, hml, hown, hg⟩ (c_N_number l H.size (a1) r2 hX) (va_cwS 1 hg (qs_gS t_713 t_714 t_8 t_715) rfl rfl rfl (by decide +kernel) ⟨Nat.le_of_ble_eq_true rfl, Nat.le_of_ble_eq_true rfl⟩) ⟨qs_blind0, fun U hU hW => ⟨rfl, by rw [hU], hNs.warm hW⟩⟩ rfl rfl hl.1 rfl (lv_room (Nat.le_of_ble_eq_true rfl)) d_N_spawn_6 ⟨Nat.le_of_ble_eq_true rfl, Nat.le_of_ble_eq_true rfl⟩) hP hD hS hA (fun H locs hP hS => ?_)
  refine lv_if_eq (tgt := 27) hx hb d_N_spawn_9 (by decide) (fun c3 => ?_) (fun c3 => ?_)
  · have hF := qs_pos c3 hF
    exact kb_27 u1 H locs ls hP hD hS (lv_sub hl [0] rfl) hF
  · have hF := qs_neg c3 hF
    refine lv_dload_n hx hb d_N_spawn_12 rfl (lv_at hl 2 rfl) ?_
    obtain ⟨r4, hX, hF⟩ := qs_pb_some hF
    refine qs_psi (va_runS (own := "QuakeServerModel") (As := [.double (a2)]) (rest := []) ⟨hx, hb, hml, hown, hg⟩ (c_N_number l H.size (a2) r4 hX) (va_cwS 1 hg (qs_gS t_713 t_714 t_8 t_715) rfl rfl rfl (by decide +kernel) ⟨Nat.le_of_ble_eq_true rfl, Nat.le_of_ble_eq_true rfl⟩) ⟨qs_blind0, fun U hU hW => ⟨rfl, by rw [hU], hNs.warm hW⟩⟩ rfl rfl hl.1 rfl (lv_room (Nat.le_of_ble_eq_true rfl)) d_N_spawn_13 ⟨Nat.le_of_ble_eq_true rfl, Nat.le_of_ble_eq_true rfl⟩) hP hD hS hA (fun H locs hP hS => ?_)
    refine lv_if_eq (tgt := 27) hx hb d_N_spawn_16 (by decide) (fun c5 => ?_) (fun c5 => ?_)
    · have hF := qs_pos c5 hF
      exact kb_27 u1 H locs ls hP hD hS (lv_sub hl [0] rfl) hF
    · have hF := qs_neg c5 hF
      refine lv_dload hx hb d_N_spawn_19 (lv_at hl 3 rfl) ?_
      obtain ⟨r6, hX, hF⟩ := qs_pb_some hF
      refine qs_psi (va_runS (own := "QuakeServerModel") (As := [.double (a3)]) (rest := []) ⟨hx, hb, hml, hown, hg⟩ (c_N_number l H.size (a3) r6 hX) (va_cwS 1 hg (qs_gS t_713 t_714 t_8 t_715) rfl rfl rfl (by decide +kernel) ⟨Nat.le_of_ble_eq_true rfl, Nat.le_of_ble_eq_true rfl⟩) ⟨qs_blind0, fun U hU hW => ⟨rfl, by rw [hU], hNs.warm hW⟩⟩ rfl rfl hl.1 rfl (lv_room (Nat.le_of_ble_eq_true rfl)) d_N_spawn_21 ⟨Nat.le_of_ble_eq_true rfl, Nat.le_of_ble_eq_true rfl⟩) hP hD hS hA (fun H locs hP hS => ?_)
      refine lv_if_ne (tgt := 33) hx hb d_N_spawn_24 (by decide) (fun c7 => ?_) (fun c7 => ?_)
      · have hF := qs_neg c7 hF
        refine lv_aload_n hx hb d_N_spawn_33 rfl (lv_at hl 0 rfl) ?_
        obtain ⟨r8, u9, hX, hF⟩ := qs_bn_some hF
        refine qs_ci (Wd := ms_W h c) (isC := [0, 1, 2, 3, 4, 5, 6, 7, 8, 9, 10, 11, 12]) (va_runV (own := "QuakeServerModel") (C := "QuakeServerModel") (As := []) (rest := []) ⟨hx, hb, hml, hown, hg⟩ (c_N_create l dC dI h c H.size u1  r8 u9 hX) (cwV 0 hg (qs_gV t_718 t_720 tp_18 t_8 t_721) rfl rfl rfl (by decide +kernel) ⟨Nat.le_of_ble_eq_true rfl, Nat.le_of_ble_eq_true rfl⟩) ⟨qs_blind, va_recv hK hP (ci := 7) (q0 := 0) rfl rfl, fun U hU hW => ⟨rfl, by rw [hU], by rw [hU]; exact hP, va_K.moved hW.alike hK, hD.weaken (fun _ _ _ _ => trivial), hNs.warm hW⟩⟩ rfl rfl hl.1 rfl (lv_room (Nat.le_of_ble_eq_true rfl)) d_N_spawn_34 ⟨Nat.le_of_ble_eq_true rfl, Nat.le_of_ble_eq_true rfl⟩) rfl hP hD hS hA (fun H locs hP hD hS => ?_)
        refine lv_istore (lv' := [(7, .int (r8)), (0, .ref (h 0)), (1, .double (a1)), (3, .double (a2)), (5, .double (a3))]) hx hb d_N_spawn_37 hl (by decide) rfl (fun ls hl => ?_)
        refine lv_iload hx hb d_N_spawn_39 (lv_at hl 0 rfl) ?_
        refine lv_if_ge (tgt := 50) hx hb d_N_spawn_41 (by decide) (fun c10 => ?_) (fun c10 => ?_)
        · have hF := qs_pos c10 hF
          refine lv_aload_n hx hb d_N_spawn_50 rfl (lv_at hl 1 rfl) ?_
          refine va_get (D := (dC, dI)) (ci := 7) (v := .ref (h 1)) (C := R_N) (T := T_N) (N := 22) hx hb hg in_N hown hK hP 0 rfl rfl 1 (by decide) (hg _ t_619) (fun _ h9 => h9) rfl d_N_spawn_51 ?_
          refine lv_bipush (v := 16) hx hb d_N_spawn_54 (by decide) ?_
          refine lv_iload hx hb d_N_spawn_56 (lv_at hl 0 rfl) ?_
          refine lv_imul hx hb d_N_spawn_58 ?_
          refine lv_dload_n hx hb d_N_spawn_59 rfl (lv_at hl 2 rfl) ?_
          obtain ⟨r11, hX, hF⟩ := qs_pb_some hF
          refine qs_psl (va_runS (own := "QuakeServerModel") (As := [.double (a1)]) (rest := [.int (16 * r8), .ref (h 1)]) ⟨hx, hb, hml, hown, hg⟩ (c_N_eighths l H.size (a1) r11 hX) (va_cwS 1 hg (qs_gS t_722 t_723 t_8 t_724) rfl rfl rfl (by decide +kernel) ⟨Nat.le_of_ble_eq_true rfl, Nat.le_of_ble_eq_true rfl⟩) ⟨qs_blind0, fun U hU hW => ⟨rfl, by rw [hU], hNs.warm hW⟩⟩ rfl rfl hl.1 rfl (lv_room (Nat.le_of_ble_eq_true rfl)) d_N_spawn_60 ⟨Nat.le_of_ble_eq_true rfl, Nat.le_of_ble_eq_true rfl⟩) hP hD hS hA (fun H locs hP hS => ?_)
          obtain ⟨c12, hF⟩ := qs_in_some hF
          refine va_last hx hb hK hP hD hS 1 0 rfl rfl c12 d_N_spawn_63 (fun H locs hP hD hS => ?_)
          obtain ⟨u13, hu13, hF⟩ := qs_st_some hF
          have hP : va_P (dC, dI) vwCl (ms_W h c u13) H := by rw [hu13]; exact hP
          have hD : va_D A (ms_W h c u13) := by rw [hu13]; exact hD
          clear hu13
          refine lv_aload_n hx hb d_N_spawn_64 rfl (lv_at hl 1 rfl) ?_
          refine va_get (D := (dC, dI)) (ci := 7) (v := .ref (h 1)) (C := R_N) (T := T_N) (N := 22) hx hb hg in_N hown hK hP 0 rfl rfl 1 (by decide) (hg _ t_619) (fun _ h9 => h9) rfl d_N_spawn_65 ?_
          refine lv_bipush (v := 16) hx hb d_N_spawn_68 (by decide) ?_
          refine lv_iload hx hb d_N_spawn_70 (lv_at hl 0 rfl) ?_
          refine lv_imul hx hb d_N_spawn_72 ?_
          refine lv_iconst (v := 1) hx hb d_N_spawn_73 (by decide) ?_
          refine lv_iadd hx hb d_N_spawn_74 ?_
          refine lv_dload_n hx hb d_N_spawn_75 rfl (lv_at hl 3 rfl) ?_
          obtain ⟨r14, hX, hF⟩ := qs_pb_some hF
          refine qs_psl (va_runS (own := "QuakeServerModel") (As := [.double (a2)]) (rest := [.int ((16 * r8) + 1), .ref (h 1)]) ⟨hx, hb, hml, hown, hg⟩ (c_N_eighths l H.size (a2) r14 hX) (va_cwS 1 hg (qs_gS t_722 t_723 t_8 t_724) rfl rfl rfl (by decide +kernel) ⟨Nat.le_of_ble_eq_true rfl, Nat.le_of_ble_eq_true rfl⟩) ⟨qs_blind0, fun U hU hW => ⟨rfl, by rw [hU], hNs.warm hW⟩⟩ rfl rfl hl.1 rfl (lv_room (Nat.le_of_ble_eq_true rfl)) d_N_spawn_76 ⟨Nat.le_of_ble_eq_true rfl, Nat.le_of_ble_eq_true rfl⟩) hP hD hS hA (fun H locs hP hS => ?_)
          obtain ⟨c15, hF⟩ := qs_in_some hF
          refine va_last hx hb hK hP hD hS 1 0 rfl rfl c15 d_N_spawn_79 (fun H locs hP hD hS => ?_)
          obtain ⟨u16, hu16, hF⟩ := qs_st_some hF
          have hP : va_P (dC, dI) vwCl (ms_W h c u16) H := by rw [hu16]; exact hP
          have hD : va_D A (ms_W h c u16) := by rw [hu16]; exact hD
          clear hu16
          refine lv_aload_n hx hb d_N_spawn_80 rfl (lv_at hl 1 rfl) ?_
          refine va_get (D := (dC, dI)) (ci := 7) (v := .ref (h 1)) (C := R_N) (T := T_N) (N := 22) hx hb hg in_N hown hK hP 0 rfl rfl 1 (by decide) (hg _ t_619) (fun _ h9 => h9) rfl d_N_spawn_81 ?_
          refine lv_bipush (v := 16) hx hb d_N_spawn_84 (by decide) ?_
          refine lv_iload hx hb d_N_spawn_86 (lv_at hl 0 rfl) ?_
          refine lv_imul hx hb d_N_spawn_88 ?_
          refine lv_iconst (v := 4) hx hb d_N_spawn_89 (by decide) ?_
          refine lv_iadd hx hb d_N_spawn_90 ?_
          refine lv_dload hx hb d_N_spawn_91 (lv_at hl 4 rfl) ?_
          obtain ⟨r17, hX, hF⟩ := qs_pb_some hF
          refine qs_psl (va_runS (own := "QuakeServerModel") (As := [.double (a3)]) (rest := [.int ((16 * r8) + 4), .ref (h 1)]) ⟨hx, hb, hml, hown, hg⟩ (c_N_eighths l H.size (a3) r17 hX) (va_cwS 1 hg (qs_gS t_722 t_723 t_8 t_724) rfl rfl rfl (by decide +kernel) ⟨Nat.le_of_ble_eq_true rfl, Nat.le_of_ble_eq_true rfl⟩) ⟨qs_blind0, fun U hU hW => ⟨rfl, by rw [hU], hNs.warm hW⟩⟩ rfl rfl hl.1 rfl (lv_room (Nat.le_of_ble_eq_true rfl)) d_N_spawn_93 ⟨Nat.le_of_ble_eq_true rfl, Nat.le_of_ble_eq_true rfl⟩) hP hD hS hA (fun H locs hP hS => ?_)
          obtain ⟨c18, hF⟩ := qs_in_some hF
          refine va_last hx hb hK hP hD hS 1 0 rfl rfl c18 d_N_spawn_96 (fun H locs hP hD hS => ?_)
          obtain ⟨u19, hu19, hF⟩ := qs_st_some hF
          have hP : va_P (dC, dI) vwCl (ms_W h c u19) H := by rw [hu19]; exact hP
          have hD : va_D A (ms_W h c u19) := by rw [hu19]; exact hD
          clear hu19
          refine lv_iload hx hb d_N_spawn_97 (lv_at hl 0 rfl) ?_
          obtain ⟨h8, h9⟩ := qs_ret hF
          exact W.iret (v := r8) hx hb hr (fun t ht hW => ⟨⟨r8, u19, rfl, ⟨h8, h9⟩, by rw [ht]; exact hP, va_K.moved hW.alike hK, hD⟩, hS.F ht⟩) hS.2.2 d_N_spawn_99
        · have hF := qs_neg c10 hF
          refine lv_aload_n hx hb d_N_spawn_44 rfl (lv_at hl 1 rfl) ?_
          refine lv_iconst (v := 2) hx hb d_N_spawn_45 (by decide) ?_
          obtain ⟨r20, u21, hX, hF⟩ := qs_bn_some hF
          refine qs_ci (Wd := ms_W h c) (isC := [0, 1, 2, 3, 4, 5, 6, 7, 8, 9, 10, 11, 12]) (va_runV (own := "QuakeServerModel") (C := "QuakeServerModel") (As := [.int (2)]) (rest := []) ⟨hx, hb, hml, hown, hg⟩ (c_N_fail l dC dI h c H.size u9 (2) r20 u21 hX) (cwV 1 hg (qs_gV t_697 t_699 tp_17 t_8 t_700) rfl rfl rfl (by decide +kernel) ⟨Nat.le_of_ble_eq_true rfl, Nat.le_of_ble_eq_true rfl⟩) ⟨qs_blind, va_recv hK hP (ci := 7) (q0 := 0) rfl rfl, fun U hU hW => ⟨rfl, by rw [hU], by rw [hU]; exact hP, va_K.moved hW.alike hK, hD.weaken (fun _ _ _ _ => trivial), hNs.warm hW⟩⟩ rfl rfl hl.1 rfl (lv_room (Nat.le_of_ble_eq_true rfl)) d_N_spawn_46 ⟨Nat.le_of_ble_eq_true rfl, Nat.le_of_ble_eq_true rfl⟩) rfl hP hD hS hA (fun H locs hP hD hS => ?_)
          obtain ⟨h8, h9⟩ := qs_ret hF
          exact W.iret (v := r20) hx hb hr (fun t ht hW => ⟨⟨r20, u21, rfl, ⟨h8, h9⟩, by rw [ht]; exact hP, va_K.moved hW.alike hK, hD⟩, hS.F ht⟩) hS.2.2 d_N_spawn_49
      · have hF := qs_pos c7 hF
        exact kb_27 u1 H locs ls hP hD hS (lv_sub hl [0] rfl) hF

theorem d_N_gone_0 : decode b_N_gone 0 = .ok (.iload_n 1, 1) := by decide +kernel
theorem d_N_gone_1 : decode b_N_gone 1 = .ok (.ifCond .lt 18, 3) := by decide +kernel
theorem d_N_gone_4 : decode b_N_gone 4 = .ok (.iload_n 1, 1) := by decide +kernel
theorem d_N_gone_5 : decode b_N_gone 5 = .ok (.bipush 11, 2) := by decide +kernel
theorem d_N_gone_7 : decode b_N_gone 7 = .ok (.if_icmp .gt 12, 3) := by decide +kernel
theorem d_N_gone_10 : decode b_N_gone 10 = .ok (.aload_n 0, 1) := by decide +kernel
theorem d_N_gone_11 : decode b_N_gone 11 = .ok (.getfield 13, 3) := by decide +kernel
theorem d_N_gone_14 : decode b_N_gone 14 = .ok (.iload_n 1, 1) := by decide +kernel
theorem d_N_gone_15 : decode b_N_gone 15 = .ok (.baload, 1) := by decide +kernel
theorem d_N_gone_16 : decode b_N_gone 16 = .ok (.ifCond .ne 7, 3) := by decide +kernel
theorem d_N_gone_19 : decode b_N_gone 19 = .ok (.iconst 1, 1) := by decide +kernel
theorem d_N_gone_20 : decode b_N_gone 20 = .ok (.goto 4, 3) := by decide +kernel
theorem d_N_gone_23 : decode b_N_gone 23 = .ok (.iconst 0, 1) := by decide +kernel
theorem d_N_gone_24 : decode b_N_gone 24 = .ok (.ireturn, 1) := by decide +kernel
def f_N_gone (g : Sm) (a1 : Int32) : Option (Int32 × Sm) := (if a1 < 0 then (some (1, g)) else (if 11 < a1 then (some (1, g)) else (qs_in (a1) 12 (if (g.1 2 a1.toNatClampNeg) = 0 then (some (1, g)) else (some (0, g))))))
set_option maxHeartbeats 4000000 in
set_option maxRecDepth 100000 in
theorem c_N_gone (l : Launch) (dC : Nat → ClassId) (dI : Nat → Nat → Nat) (h : Nat → Nat) (c : Nat → ClassId) (sz : Nat) (g : Sm) (a1 : Int32) (r0 : Int32) (u0 : Sm) (hF : f_N_gone g a1 = some (r0, u0)) : Met l y_N_gone (qs_ws y_N_gone b_N_gone 2 (some .boolean)) ({ frames := 0, cells := 0, slots := 0, locals := 0 } : Room) (va_Pc ([.ref (h 0), .int a1] : List Value) (fun U => U.heap.size = sz ∧ va_P (dC, dI) vwCl (ms_W h c g) U.heap ∧ va_K (dC, dI) vwCl (ms_T c) U ∧ va_D (fun _ => True) (ms_W h c g) ∧ qs_N U)) (va_Qi (fun (r : Int32) (u : Sm) => r = r0 ∧ u = u0) (ms_at dC dI h c (va_A (ms_W h c g) sz)) (va_A (ms_W h c g) sz)) 0 0 (va_A (ms_W h c g) sz) := by
  refine Met.ofW (cc := b_N_gone) (maxL := 2) (ret := (some .boolean)) (by decide +kernel) rfl ?_
  intro p e s m args below meth cd s₁ B hml hv
  obtain ⟨rfl, hsz, hP, hK, hD0, hNs⟩ := hv
  have hx := B.exec
  have hb := B.bytes
  have hr := B.returns
  have hts := atoms_spec (ws := (qs_ws y_N_gone b_N_gone 2 (some .boolean))) B.pre
  have hg : ∀ w ∈ qs_gt, w.before _ s = true := fun w h => hts w (List.mem_cons_of_mem _ h)
  have hown : s.vm.findClass R_N = some m.cls := findClass_of_methodNamed B.named
  have hlocks := B.notSynchronized
  subst hsz
  have hD := hD0.self (sz := s.heap.size)
  generalize hAe : va_A (ms_W h c g) s.heap.size = A at hD ⊢
  have hA : ∀ q : Nat, s.heap.size ≤ q → A q := fun q h => by rw [← hAe]; exact Or.inr h
  have hS : va_S A s.heap s.heap [] := va_S.rf
  have hl := lv_entry ([.ref (h 0), .int a1] : List Value) (n := 2) (Nat.le_of_ble_eq_true rfl)
  rw [lg_entry_eq]
  generalize (lg_sl ([.ref (h 0), .int a1] : List Value) ++ List.replicate (2 - (lg_sl ([.ref (h 0), .int a1] : List Value)).length) Slot.unset).toArray = ls at hl ⊢
  have hl : lv_has ls 2 [(0, .ref (h 0)), (1, .int (a1))] := hl
  unfold f_N_gone at hF
  obtain ⟨H, hHe⟩ : ∃ H, H = s.heap := ⟨_, rfl⟩
  obtain ⟨locs, hLe⟩ : ∃ L : List Loc, L = [] := ⟨_, rfl⟩
  rw [← hHe] at hP ⊢
  rw [← hLe]
  have hS : va_S A s.heap H locs := by rw [hHe, hLe]; exact hS
  refine lv_iload_n hx hb d_N_gone_0 rfl (lv_at hl 1 rfl) ?_
  refine lv_if_lt (tgt := 19) hx hb d_N_gone_1 (by decide) (fun c1 => ?_) (fun c1 => ?_)
  · have hF := qs_pos c1 hF
    refine lv_iconst (v := 1) hx hb d_N_gone_19 (by decide) ?_
    refine lv_goto (tgt := 24) hx hb d_N_gone_20 (by decide) ?_
    obtain ⟨h8, h9⟩ := qs_ret hF
    exact W.zret (ty := .boolean) (v := 1) hx hb hr rfl (fun t ht hW => ⟨⟨1, g, rfl, ⟨h8, h9⟩, by rw [ht]; exact hP, va_K.moved hW.alike hK, hD⟩, hS.F ht⟩) hS.2.2 d_N_gone_24
  · have hF := qs_neg c1 hF
    refine lv_iload_n hx hb d_N_gone_4 rfl (lv_at hl 1 rfl) ?_
    refine lv_bipush (v := 11) hx hb d_N_gone_5 (by decide) ?_
    refine lv_icmp_gt (tgt := 19) hx hb d_N_gone_7 (by decide) (fun c2 => ?_) (fun c2 => ?_)
    · have hF := qs_pos c2 hF
      refine lv_iconst (v := 1) hx hb d_N_gone_19 (by decide) ?_
      refine lv_goto (tgt := 24) hx hb d_N_gone_20 (by decide) ?_
      obtain ⟨h8, h9⟩ := qs_ret hF
      exact W.zret (ty := .boolean) (v := 1) hx hb hr rfl (fun t ht hW => ⟨⟨1, g, rfl, ⟨h8, h9⟩, by rw [ht]; exact hP, va_K.moved hW.alike hK, hD⟩, hS.F ht⟩) hS.2.2 d_N_gone_24
    · have hF := qs_neg c2 hF
      refine lv_aload_n hx hb d_N_gone_10 rfl (lv_at hl 0 rfl) ?_
      refine va_get (D := (dC, dI)) (ci := 7) (v := .ref (h 2)) (C := R_N) (T := T_N) (N := 22) hx hb hg in_N hown hK hP 0 rfl rfl 2 (by decide) (hg _ t_620) (fun _ h9 => h9) rfl d_N_gone_11 ?_
      refine lv_iload_n hx hb d_N_gone_14 rfl (lv_at hl 1 rfl) ?_
      obtain ⟨c3, hF⟩ := qs_in_some hF
      refine va_zald hx hb hK hP 2 1 rfl rfl c3 d_N_gone_15 ?_
      refine lv_if_ne (tgt := 23) hx hb d_N_gone_16 (by decide) (fun c4 => ?_) (fun c4 => ?_)
      · have hF := qs_neg c4 hF
        refine lv_iconst (v := 0) hx hb d_N_gone_23 (by decide) ?_
        obtain ⟨h8, h9⟩ := qs_ret hF
        exact W.zret (ty := .boolean) (v := 0) hx hb hr rfl (fun t ht hW => ⟨⟨0, g, rfl, ⟨h8, h9⟩, by rw [ht]; exact hP, va_K.moved hW.alike hK, hD⟩, hS.F ht⟩) hS.2.2 d_N_gone_24
      · have hF := qs_pos c4 hF
        refine lv_iconst (v := 1) hx hb d_N_gone_19 (by decide) ?_
        refine lv_goto (tgt := 24) hx hb d_N_gone_20 (by decide) ?_
        obtain ⟨h8, h9⟩ := qs_ret hF
        exact W.zret (ty := .boolean) (v := 1) hx hb hr rfl (fun t ht hW => ⟨⟨1, g, rfl, ⟨h8, h9⟩, by rw [ht]; exact hP, va_K.moved hW.alike hK, hD⟩, hS.F ht⟩) hS.2.2 d_N_gone_24

theorem d_N_remove_0 : decode b_N_remove 0 = .ok (.aload_n 0, 1) := by decide +kernel
theorem d_N_remove_1 : decode b_N_remove 1 = .ok (.iconst 0, 1) := by decide +kernel
theorem d_N_remove_2 : decode b_N_remove 2 = .ok (.putfield 52, 3) := by decide +kernel
theorem d_N_remove_5 : decode b_N_remove 5 = .ok (.aload_n 0, 1) := by decide +kernel
theorem d_N_remove_6 : decode b_N_remove 6 = .ok (.iload_n 1, 1) := by decide +kernel
theorem d_N_remove_7 : decode b_N_remove 7 = .ok (.invokevirtual 98, 3) := by decide +kernel
theorem d_N_remove_10 : decode b_N_remove 10 = .ok (.ifCond .eq 9, 3) := by decide +kernel
theorem d_N_remove_13 : decode b_N_remove 13 = .ok (.aload_n 0, 1) := by decide +kernel
theorem d_N_remove_14 : decode b_N_remove 14 = .ok (.iconst 1, 1) := by decide +kernel
theorem d_N_remove_15 : decode b_N_remove 15 = .ok (.invokevirtual 69, 3) := by decide +kernel
theorem d_N_remove_18 : decode b_N_remove 18 = .ok (.ireturn, 1) := by decide +kernel
theorem d_N_remove_19 : decode b_N_remove 19 = .ok (.aload_n 0, 1) := by decide +kernel
theorem d_N_remove_20 : decode b_N_remove 20 = .ok (.getfield 13, 3) := by decide +kernel
theorem d_N_remove_23 : decode b_N_remove 23 = .ok (.iload_n 1, 1) := by decide +kernel
theorem d_N_remove_24 : decode b_N_remove 24 = .ok (.iconst 0, 1) := by decide +kernel
theorem d_N_remove_25 : decode b_N_remove 25 = .ok (.bastore, 1) := by decide +kernel
theorem d_N_remove_26 : decode b_N_remove 26 = .ok (.iconst 1, 1) := by decide +kernel
theorem d_N_remove_27 : decode b_N_remove 27 = .ok (.ireturn, 1) := by decide +kernel
def f_N_remove (g : Sm) (a1 : Int32) : Option (Int32 × Sm) := (qs_st (qm_i g 20 (0)) fun u1 => (qs_bn (f_N_gone u1 (a1)) fun r2 u3 => (if r2 = 0 then (qs_in (a1) 12 (qs_st (qm_a u3 2 a1.toNatClampNeg (vp_nar .boolean (0 : Int32))) fun u6 => (some (1, u6)))) else (qs_bn (f_N_fail u3 (1)) fun r7 u8 => (some (r7, u8))))))
set_option maxHeartbeats 4000000 in
set_option maxRecDepth 100000 in
theorem c_N_remove (l : Launch) (dC : Nat → ClassId) (dI : Nat → Nat → Nat) (h : Nat → Nat) (c : Nat → ClassId) (sz : Nat) (g : Sm) (a1 : Int32) (r0 : Int32) (u0 : Sm) (hF : f_N_remove g a1 = some (r0, u0)) : Met l y_N_remove (qs_ws y_N_remove b_N_remove 2 (some .int)) ({ frames := 1, cells := 0, slots := 0, locals := 21 } : Room) (va_Pc ([.ref (h 0), .int a1] : List Value) (fun U => U.heap.size = sz ∧ va_P (dC, dI) vwCl (ms_W h c g) U.heap ∧ va_K (dC, dI) vwCl (ms_T c) U ∧ va_D (fun _ => True) (ms_W h c g) ∧ qs_N U)) (va_Qi (fun (r : Int32) (u : Sm) => r = r0 ∧ u = u0) (ms_at dC dI h c (va_A (ms_W h c g) sz)) (va_A (ms_W h c g) sz)) 0 0 (va_A (ms_W h c g) sz) := by
  refine Met.ofW (cc := b_N_remove) (maxL := 2) (ret := (some .int)) (by decide +kernel) rfl ?_
  intro p e s m args below meth cd s₁ B hml hv
  obtain ⟨rfl, hsz, hP, hK, hD0, hNs⟩ := hv
  have hx := B.exec
  have hb := B.bytes
  have hr := B.returns
  have hts := atoms_spec (ws := (qs_ws y_N_remove b_N_remove 2 (some .int))) B.pre
  have hg : ∀ w ∈ qs_gt, w.before _ s = true := fun w h => hts w (List.mem_cons_of_mem _ h)
  have hown : s.vm.findClass R_N = some m.cls := findClass_of_methodNamed B.named
  have hlocks := B.notSynchronized
  subst hsz
  have hD := hD0.self (sz := s.heap.size)
  generalize hAe : va_A (ms_W h c g) s.heap.size = A at hD ⊢
  have hA : ∀ q : Nat, s.heap.size ≤ q → A q := fun q h => by rw [← hAe]; exact Or.inr h
  have hS : va_S A s.heap s.heap [] := va_S.rf
  have hl := lv_entry ([.ref (h 0), .int a1] : List Value) (n := 2) (Nat.le_of_ble_eq_true rfl)
  rw [lg_entry_eq]
  generalize (lg_sl ([.ref (h 0), .int a1] : List Value) ++ List.replicate (2 - (lg_sl ([.ref (h 0), .int a1] : List Value)).length) Slot.unset).toArray = ls at hl ⊢
  have hl : lv_has ls 2 [(0, .ref (h 0)), (1, .int (a1))] := hl
  unfold f_N_remove at hF
  obtain ⟨H, hHe⟩ : ∃ H, H = s.heap := ⟨_, rfl⟩
  obtain ⟨locs, hLe⟩ : ∃ L : List Loc, L = [] := ⟨_, rfl⟩
  rw [← hHe] at hP ⊢
  rw [← hLe]
  have hS : va_S A s.heap H locs := by rw [hHe, hLe]; exact hS
  refine lv_aload_n hx hb d_N_remove_0 rfl (lv_at hl 0 rfl) ?_
  refine lv_iconst (v := 0) hx hb d_N_remove_1 (by decide) ?_
  refine va_put (D := (dC, dI)) (ci := 7) (v := .int (0)) (ty := .int) (C := R_N) (T := T_N) (N := 22) hx hb hg in_N ty_N ty_N_ok nm_N hown hK hP hD hS 0 rfl rfl 0 (by decide) (hg _ t_618) (fun _ h9 => h9) rfl (by decide +kernel) rfl rfl (Nat.le_of_ble_eq_true rfl) d_N_remove_2 (fun H locs hP hD hS => ?_)
  obtain ⟨u1, hu1, hF⟩ := qs_st_some hF
  have hP : va_P (dC, dI) vwCl (ms_W h c u1) H := by rw [hu1]; exact hP
  have hD : va_D A (ms_W h c u1) := by rw [hu1]; exact hD
  clear hu1
  refine lv_aload_n hx hb d_N_remove_5 rfl (lv_at hl 0 rfl) ?_
  refine lv_iload_n hx hb d_N_remove_6 rfl (lv_at hl 1 rfl) ?_
  obtain ⟨r2, u3, hX, hF⟩ := qs_bn_some hF
  refine qs_ci (Wd := ms_W h c) (isC := [0, 1, 2, 3, 4, 5, 6, 7, 8, 9, 10, 11, 12]) (va_runV (own := "QuakeServerModel") (C := "QuakeServerModel") (As := [.int (a1)]) (rest := []) ⟨hx, hb, hml, hown, hg⟩ (c_N_gone l dC dI h c H.size u1 (a1) r2 u3 hX) (cwV 1 hg (qs_gV t_730 t_732 tp_19 t_8 t_733) rfl rfl rfl (by decide +kernel) ⟨Nat.le_of_ble_eq_true rfl, Nat.le_of_ble_eq_true rfl⟩) ⟨qs_blind, va_recv hK hP (ci := 7) (q0 := 0) rfl rfl, fun U hU hW => ⟨rfl, by rw [hU], by rw [hU]; exact hP, va_K.moved hW.alike hK, hD.weaken (fun _ _ _ _ => trivial), hNs.warm hW⟩⟩ rfl rfl hl.1 rfl (lv_room (Nat.le_of_ble_eq_true rfl)) d_N_remove_7 ⟨Nat.le_of_ble_eq_true rfl, Nat.le_of_ble_eq_true rfl⟩) rfl hP hD hS hA (fun H locs hP hD hS => ?_)
  refine lv_if_eq (tgt := 19) hx hb d_N_remove_10 (by decide) (fun c4 => ?_) (fun c4 => ?_)
  · have hF := qs_pos c4 hF
    refine lv_aload_n hx hb d_N_remove_19 rfl (lv_at hl 0 rfl) ?_
    refine va_get (D := (dC, dI)) (ci := 7) (v := .ref (h 2)) (C := R_N) (T := T_N) (N := 22) hx hb hg in_N hown hK hP 0 rfl rfl 2 (by decide) (hg _ t_620) (fun _ h9 => h9) rfl d_N_remove_20 ?_
    refine lv_iload_n hx hb d_N_remove_23 rfl (lv_at hl 1 rfl) ?_
    refine lv_iconst (v := 0) hx hb d_N_remove_24 (by decide) ?_
    obtain ⟨c5, hF⟩ := qs_in_some hF
    refine va_zast hx hb hK hP hD hS 2 1 rfl rfl c5 d_N_remove_25 (fun H locs hP hD hS => ?_)
    obtain ⟨u6, hu6, hF⟩ := qs_st_some hF
    have hP : va_P (dC, dI) vwCl (ms_W h c u6) H := by rw [hu6]; exact hP
    have hD : va_D A (ms_W h c u6) := by rw [hu6]; exact hD
    clear hu6
    refine lv_iconst (v := 1) hx hb d_N_remove_26 (by decide) ?_
    obtain ⟨h8, h9⟩ := qs_ret hF
    exact W.iret (v := 1) hx hb hr (fun t ht hW => ⟨⟨1, u6, rfl, ⟨h8, h9⟩, by rw [ht]; exact hP, va_K.moved hW.alike hK, hD⟩, hS.F ht⟩) hS.2.2 d_N_remove_27
  · have hF := qs_neg c4 hF
    refine lv_aload_n hx hb d_N_remove_13 rfl (lv_at hl 0 rfl) ?_
    refine lv_iconst (v := 1) hx hb d_N_remove_14 (by decide) ?_
    obtain ⟨r7, u8, hX, hF⟩ := qs_bn_some hF
    refine qs_ci (Wd := ms_W h c) (isC := [0, 1, 2, 3, 4, 5, 6, 7, 8, 9, 10, 11, 12]) (va_runV (own := "QuakeServerModel") (C := "QuakeServerModel") (As := [.int (1)]) (rest := []) ⟨hx, hb, hml, hown, hg⟩ (c_N_fail l dC dI h c H.size u3 (1) r7 u8 hX) (cwV 1 hg (qs_gV t_697 t_699 tp_17 t_8 t_700) rfl rfl rfl (by decide +kernel) ⟨Nat.le_of_ble_eq_true rfl, Nat.le_of_ble_eq_true rfl⟩) ⟨qs_blind, va_recv hK hP (ci := 7) (q0 := 0) rfl rfl, fun U hU hW => ⟨rfl, by rw [hU], by rw [hU]; exact hP, va_K.moved hW.alike hK, hD.weaken (fun _ _ _ _ => trivial), hNs.warm hW⟩⟩ rfl rfl hl.1 rfl (lv_room (Nat.le_of_ble_eq_true rfl)) d_N_remove_15 ⟨Nat.le_of_ble_eq_true rfl, Nat.le_of_ble_eq_true rfl⟩) rfl hP hD hS hA (fun H locs hP hD hS => ?_)
    obtain ⟨h8, h9⟩ := qs_ret hF
    exact W.iret (v := r7) hx hb hr (fun t ht hW => ⟨⟨r7, u8, rfl, ⟨h8, h9⟩, by rw [ht]; exact hP, va_K.moved hW.alike hK, hD⟩, hS.F ht⟩) hS.2.2 d_N_remove_18

theorem d_N_set_0 : decode b_N_set 0 = .ok (.aload_n 0, 1) := by decide +kernel
theorem d_N_set_1 : decode b_N_set 1 = .ok (.iconst 0, 1) := by decide +kernel
theorem d_N_set_2 : decode b_N_set 2 = .ok (.putfield 52, 3) := by decide +kernel
theorem d_N_set_5 : decode b_N_set 5 = .ok (.aload_n 0, 1) := by decide +kernel
theorem d_N_set_6 : decode b_N_set 6 = .ok (.iload_n 1, 1) := by decide +kernel
theorem d_N_set_7 : decode b_N_set 7 = .ok (.invokevirtual 98, 3) := by decide +kernel
theorem d_N_set_10 : decode b_N_set 10 = .ok (.ifCond .eq 10, 3) := by decide +kernel
theorem d_N_set_13 : decode b_N_set 13 = .ok (.aload_n 0, 1) := by decide +kernel
theorem d_N_set_14 : decode b_N_set 14 = .ok (.iconst 1, 1) := by decide +kernel
theorem d_N_set_15 : decode b_N_set 15 = .ok (.invokevirtual 69, 3) := by decide +kernel
theorem d_N_set_18 : decode b_N_set 18 = .ok (.i2d, 1) := by decide +kernel
theorem d_N_set_19 : decode b_N_set 19 = .ok (.dreturn, 1) := by decide +kernel
theorem d_N_set_20 : decode b_N_set 20 = .ok (.iload_n 2, 1) := by decide +kernel
theorem d_N_set_21 : decode b_N_set 21 = .ok (.iconst 0, 1) := by decide +kernel
theorem d_N_set_22 : decode b_N_set 22 = .ok (.bipush 15, 2) := by decide +kernel
theorem d_N_set_24 : decode b_N_set 24 = .ok (.invokestatic 65, 3) := by decide +kernel
theorem d_N_set_27 : decode b_N_set 27 = .ok (.ifCond .eq 10, 3) := by decide +kernel
theorem d_N_set_30 : decode b_N_set 30 = .ok (.dload_n 3, 1) := by decide +kernel
theorem d_N_set_31 : decode b_N_set 31 = .ok (.invokestatic 86, 3) := by decide +kernel
theorem d_N_set_34 : decode b_N_set 34 = .ok (.ifCond .ne 10, 3) := by decide +kernel
theorem d_N_set_37 : decode b_N_set 37 = .ok (.aload_n 0, 1) := by decide +kernel
theorem d_N_set_38 : decode b_N_set 38 = .ok (.iconst 2, 1) := by decide +kernel
theorem d_N_set_39 : decode b_N_set 39 = .ok (.invokevirtual 69, 3) := by decide +kernel
theorem d_N_set_42 : decode b_N_set 42 = .ok (.i2d, 1) := by decide +kernel
theorem d_N_set_43 : decode b_N_set 43 = .ok (.dreturn, 1) := by decide +kernel
theorem d_N_set_44 : decode b_N_set 44 = .ok (.aload_n 0, 1) := by decide +kernel
theorem d_N_set_45 : decode b_N_set 45 = .ok (.getfield 7, 3) := by decide +kernel
theorem d_N_set_48 : decode b_N_set 48 = .ok (.bipush 16, 2) := by decide +kernel
theorem d_N_set_50 : decode b_N_set 50 = .ok (.iload_n 1, 1) := by decide +kernel
theorem d_N_set_51 : decode b_N_set 51 = .ok (.imul, 1) := by decide +kernel
theorem d_N_set_52 : decode b_N_set 52 = .ok (.iload_n 2, 1) := by decide +kernel
theorem d_N_set_53 : decode b_N_set 53 = .ok (.iadd, 1) := by decide +kernel
theorem d_N_set_54 : decode b_N_set 54 = .ok (.laload, 1) := by decide +kernel
theorem d_N_set_55 : decode b_N_set 55 = .ok (.lstore 5, 2) := by decide +kernel
theorem d_N_set_57 : decode b_N_set 57 = .ok (.aload_n 0, 1) := by decide +kernel
theorem d_N_set_58 : decode b_N_set 58 = .ok (.getfield 7, 3) := by decide +kernel
theorem d_N_set_61 : decode b_N_set 61 = .ok (.bipush 16, 2) := by decide +kernel
theorem d_N_set_63 : decode b_N_set 63 = .ok (.iload_n 1, 1) := by decide +kernel
theorem d_N_set_64 : decode b_N_set 64 = .ok (.imul, 1) := by decide +kernel
theorem d_N_set_65 : decode b_N_set 65 = .ok (.iload_n 2, 1) := by decide +kernel
theorem d_N_set_66 : decode b_N_set 66 = .ok (.iadd, 1) := by decide +kernel
theorem d_N_set_67 : decode b_N_set 67 = .ok (.dload_n 3, 1) := by decide +kernel
theorem d_N_set_68 : decode b_N_set 68 = .ok (.invokestatic 94, 3) := by decide +kernel
theorem d_N_set_71 : decode b_N_set 71 = .ok (.lastore, 1) := by decide +kernel
theorem d_N_set_72 : decode b_N_set 72 = .ok (.lload 5, 2) := by decide +kernel
theorem d_N_set_74 : decode b_N_set 74 = .ok (.l2d, 1) := by decide +kernel
theorem d_N_set_75 : decode b_N_set 75 = .ok (.ldc2_w 102, 3) := by decide +kernel
theorem d_N_set_78 : decode b_N_set 78 = .ok (.dmul, 1) := by decide +kernel
theorem d_N_set_79 : decode b_N_set 79 = .ok (.dreturn, 1) := by decide +kernel
def f_N_set_37  (g : Sm) : Option (UInt64 × Sm) := (qs_bn (f_N_fail g (2)) fun r16 u17 => (some (FP.i2d r16, u17)))
def f_N_set (g : Sm) (a1 : Int32) (a2 : Int32) (a3 : UInt64) : Option (UInt64 × Sm) := (qs_st (qm_i g 20 (0)) fun u1 => (qs_bn (f_N_gone u1 (a1)) fun r2 u3 => (if r2 = 0 then (qs_pb (f_N_in (a2) (0) (15)) fun r5 => (if r5 = 0 then (f_N_set_37 u3) else (qs_pb (f_N_number (a3)) fun r7 => (if r7 = 0 then (f_N_set_37 u3) else (qs_in ((16 * a1) + a2) 192 (qs_pb (f_N_eighths (a3)) fun r10 => (qs_in ((16 * a1) + a2) 192 (qs_st (qm_la u3 1 ((16 * a1) + a2).toNatClampNeg (r10)) fun u12 => (qs_nan (FP.dmul (FP.l2d (u3.2 1 ((16 * a1) + a2).toNatClampNeg)) (4593671619917905920 : UInt64)) (some (FP.dmul (FP.l2d (u3.2 1 ((16 * a1) + a2).toNatClampNeg)) (4593671619917905920 : UInt64), u12))))))))))) else (qs_bn (f_N_fail u3 (1)) fun r14 u15 => (some (FP.i2d r14, u15))))))
set_option maxHeartbeats 4000000 in
set_option maxRecDepth 100000 in
theorem c_N_set (l : Launch) (dC : Nat → ClassId) (dI : Nat → Nat → Nat) (h : Nat → Nat) (c : Nat → ClassId) (sz : Nat) (g : Sm) (a1 : Int32) (a2 : Int32) (a3 : UInt64) (r0 : UInt64) (u0 : Sm) (hF : f_N_set g a1 a2 a3 = some (r0, u0)) : Met l y_N_set (qs_ws y_N_set b_N_set 7 (some .double)) ({ frames := 1, cells := 0, slots := 0, locals := 22 } : Room) (va_Pc ([.ref (h 0), .int a1, .int a2, .double a3] : List Value) (fun U => U.heap.size = sz ∧ va_P (dC, dI) vwCl (ms_W h c g) U.heap ∧ va_K (dC, dI) vwCl (ms_T c) U ∧ va_D (fun _ => True) (ms_W h c g) ∧ qs_N U)) (va_Qd (fun (r : UInt64) (u : Sm) => r = r0 ∧ u = u0) (ms_at dC dI h c (va_A (ms_W h c g) sz)) (va_A (ms_W h c g) sz)) 0 0 (va_A (ms_W h c g) sz) := by
  refine Met.ofW (cc := b_N_set) (maxL := 7) (ret := (some .double)) (by decide +kernel) rfl ?_
  intro p e s m args below meth cd s₁ B hml hv
  obtain ⟨rfl, hsz, hP, hK, hD0, hNs⟩ := hv
  have hx := B.exec
  have hb := B.bytes
  have hr := B.returns
  have hts := atoms_spec (ws := (qs_ws y_N_set b_N_set 7 (some .double))) B.pre
  have hg : ∀ w ∈ qs_gt, w.before _ s = true := fun w h => hts w (List.mem_cons_of_mem _ h)
  have hown : s.vm.findClass R_N = some m.cls := findClass_of_methodNamed B.named
  have hlocks := B.notSynchronized
  subst hsz
  have hD := hD0.self (sz := s.heap.size)
  generalize hAe : va_A (ms_W h c g) s.heap.size = A at hD ⊢
  have hA : ∀ q : Nat, s.heap.size ≤ q → A q := fun q h => by rw [← hAe]; exact Or.inr h
  have hS : va_S A s.heap s.heap [] := va_S.rf
  have kb_37 : ∀ (g : Sm) (H : Heap) (locs : List Loc) (ls : Array Slot), va_P (dC, dI) vwCl (ms_W h c g) H → va_D A (ms_W h c g) → va_S A s.heap H locs → lv_has ls 7 [(0, .ref (h 0))] → f_N_set_37  g = some (r0, u0) → W p l e (headSpec (qs_ws y_N_set b_N_set 7 (some .double)) ({ frames := 1, cells := 0, slots := 0, locals := 22 } : Room)).room s m ([.ref (h 0), .int a1, .int a2, .double a3] : List Value).toArray below meth cd H locs 0 0 (MQ below (va_Qd (fun (r : UInt64) (u : Sm) => r = r0 ∧ u = u0) (ms_at dC dI h c A) A) ([.ref (h 0), .int a1, .int a2, .double a3] : List Value).toArray s 0 0 A) (F0 m 37 ls []) := by
    intro g H locs ls hP hD hS hl hF
    unfold f_N_set_37 at hF
    refine lv_aload_n hx hb d_N_set_37 rfl (lv_at hl 0 rfl) ?_
    refine lv_iconst (v := 2) hx hb d_N_set_38 (by decide) ?_
    obtain ⟨r16, u17, hX, hF⟩ := qs_bn_some hF
    refine qs_ci (Wd := ms_W h c) (isC := [0, 1, 2, 3, 4, 5, 6, 7, 8, 9, 10, 11, 12]) (va_runV (own := "QuakeServerModel") (C := "QuakeServerModel") (As := [.int (2)]) (rest := []) ⟨hx, hb, hml, hown, hg⟩ (c_N_fail l dC dI h c H.size g (2) r16 u17 hX) (cwV 1 hg (qs_gV t_697 t_699 tp_17 t_8 t_700) rfl rfl rfl (by decide +kernel) ⟨Nat.le_of_ble_eq_true rfl, Nat.le_of_ble_eq_true rfl⟩) ⟨qs_blind, va_recv hK hP (ci := 7) (q0 := 0) rfl rfl, fun U hU hW => ⟨rfl, by rw [hU], by rw [hU]; exact hP, va_K.moved hW.alike hK, hD.weaken (fun _ _ _ _ => trivial), hNs.warm hW⟩⟩ rfl rfl hl.1 rfl (lv_room (Nat.le_of_ble_eq_true rfl)) d_N_set_39 ⟨Nat.le_of_ble_eq_true rfl, Nat.le_of_ble_eq_true rfl⟩) rfl hP hD hS hA (fun H locs hP hD hS => ?_)
    refine lv_i2d hx hb d_N_set_42 ?_
    obtain ⟨h8, h9⟩ := qs_ret hF
    exact W.dret (v := FP.i2d r16) hx hb hr (fun t ht hW => ⟨⟨(FP.i2d r16), u17, rfl, ⟨h8, h9⟩, by rw [ht]; exact hP, va_K.moved hW.alike hK, hD⟩, hS.F ht⟩) hS.2.2 d_N_set_43
  have hl := lv_entry ([.ref (h 0), .int a1, .int a2, .double a3] : List Value) (n := 7) (Nat.le_of_ble_eq_true rfl)
  rw [lg_entry_eq]
  generalize (lg_sl ([.ref (h 0), .int a1, .int a2, .double a3] : List Value) ++ List.replicate (7 - (lg_sl ([.ref (h 0), .int a1, .int a2, .double a3] : List Value)).length) Slot.unset).toArray = ls at hl ⊢
  have hl : lv_has ls 7 [(0, .ref (h 0)), (1, .int (a1)), (2, .int (a2)), (3, .double (a3))] := hl
  unfold f_N_set at hF
  obtain ⟨H, hHe⟩ : ∃ H, H = s.heap := ⟨_, rfl⟩
  obtain ⟨locs, hLe⟩ : ∃ L : List Loc, L = [] := ⟨_, rfl⟩
  rw [← hHe] at hP ⊢
  rw [← hLe]
  have hS : va_S A s.heap H locs := by rw [hHe, hLe]; exact hS
  refine lv_aload_n hx hb d_N_set_0 rfl (lv_at hl 0 rfl) ?_
  refine lv_iconst (v := 0) hx hb d_N_set_1 (by decide) ?_
  refine va_put (D := (dC, dI)) (ci := 7) (v := .int (0)) (ty := .int) (C := R_N) (T := T_N) (N := 22) hx hb hg in_N ty_N ty_N_ok nm_N hown hK hP hD hS 0 rfl rfl 0 (by decide) (hg _ t_618) (fun _ h9 => h9) rfl (by decide +kernel) rfl rfl (Nat.le_of_ble_eq_true rfl) d_N_set_2 (fun H locs hP hD hS => ?_)
  obtain ⟨u1, hu1, hF⟩ := qs_st_some hF
  have hP : va_P (dC, dI) vwCl (ms_W h c u1) H := by rw [hu1]; exact hP
  have hD : va_D A (ms_W h c u1) := by rw [hu1]; exact hD
  clear hu1
  refine lv_aload_n hx hb d_N_set_5 rfl (lv_at hl 0 rfl) ?_
  refine lv_iload_n hx hb d_N_set_6 rfl (lv_at hl 1 rfl) ?_
  obtain ⟨r2, u3, hX, hF⟩ := qs_bn_some hF
  refine qs_ci (Wd := ms_W h c) (isC := [0, 1, 2, 3, 4, 5, 6, 7, 8, 9, 10, 11, 12]) (va_runV (own := "QuakeServerModel") (C := "QuakeServerModel") (As := [.int (a1)]) (rest := []) ⟨hx, hb, hml, hown, hg⟩ (c_N_gone l dC dI h c H.size u1 (a1) r2 u3 hX) (cwV 1 hg (qs_gV t_730 t_732 tp_19 t_8 t_733) rfl rfl rfl (by decide +kernel) ⟨Nat.le_of_ble_eq_true rfl, Nat.le_of_ble_eq_true rfl⟩) ⟨qs_blind, va_recv hK hP (ci := 7) (q0 := 0) rfl rfl, fun U hU hW => ⟨rfl, by rw [hU], by rw [hU]; exact hP, va_K.moved hW.alike hK, hD.weaken (fun _ _ _ _ => trivial), hNs.warm hW⟩⟩ rfl rfl hl.1 rfl (lv_room (Nat.le_of_ble_eq_true rfl)) d_N_set_7 ⟨Nat.le_of_ble_eq_true rfl, Nat.le_of_ble_eq_true rfl⟩) rfl hP hD hS hA (fun H locs hP hD hS => ?_)
  refine lv_if_eq (tgt := 20) hx hb d_N_set_10 (by decide) (fun c4 => ?_) (fun c4 => ?_)
  · have hF := qs_pos c4 hF
    refine lv_iload_n hx hb d_N_set_20 rfl (lv_at hl 2 rfl) ?_
    refine lv_iconst (v := 0) hx hb d_N_set_21 (by decide) ?_
    refine lv_bipush (v := 15) hx hb d_N_set_22 (by decide) ?_
    obtain ⟨r5, hX, hF⟩ := qs_pb_some hF
    refine qs_psi (va_runS (own := "QuakeServerModel") (As := [.int (a2), .int (0), .int (15)]) (rest := []) ⟨hx, hb, hml, hown, hg⟩ (c_N_in l H.size (a2) (0) (15) r5 hX) (va_cwS 3 hg (qs_gS t_694 t_695 t_8 t_696) rfl rfl rfl (by decide +kernel) ⟨Nat.le_of_ble_eq_true rfl, Nat.le_of_ble_eq_true rfl⟩) ⟨qs_blind0, fun U hU hW => ⟨rfl, by rw [hU], hNs.warm hW⟩⟩ rfl rfl hl.1 rfl (lv_room (Nat.le_of_ble_eq_true rfl)) d_N_set_24 ⟨Nat.le_of_ble_eq_true rfl, Nat.le_of_ble_eq_true rfl⟩) hP hD hS hA (fun H locs hP hS => ?_)
    refine lv_if_eq (tgt := 37) hx hb d_N_set_27 (by decide) (fun c6 => ?_) (fun c6 => ?_)
    · have hF := qs_pos c6 hF
      exact kb_37 u3 H locs ls hP hD hS (lv_sub hl [0] rfl) hF
    · have hF := qs_neg c6 hF
      refine lv_dload_n hx hb d_N_set_30 rfl (lv_at hl 3 rfl) ?_
      obtain ⟨r7, hX, hF⟩ := qs_pb_some hF
      refine qs_psi (va_runS (own := "QuakeServerModel") (As := [.double (a3)]) (rest := []) ⟨hx, hb, hml, hown, hg⟩ (c_N_number l H.size (a3) r7 hX) (va_cwS 1 hg (qs_gS t_713 t_714 t_8 t_715) rfl rfl rfl (by decide +kernel) ⟨Nat.le_of_ble_eq_true rfl, Nat.le_of_ble_eq_true rfl⟩) ⟨qs_blind0, fun U hU hW => ⟨rfl, by rw [hU], hNs.warm hW⟩⟩ rfl rfl hl.1 rfl (lv_room (Nat.le_of_ble_eq_true rfl)) d_N_set_31 ⟨Nat.le_of_ble_eq_true rfl, Nat.le_of_ble_eq_true rfl⟩) hP hD hS hA (fun H locs hP hS => ?_)
      refine lv_if_ne (tgt := 44) hx hb d_N_set_34 (by decide) (fun c8 => ?_) (fun c8 => ?_)
      · have hF := qs_neg c8 hF
        refine lv_aload_n hx hb d_N_set_44 rfl (lv_at hl 0 rfl) ?_
        refine va_get (D := (dC, dI)) (ci := 7) (v := .ref (h 1)) (C := R_N) (T := T_N) (N := 22) hx hb hg in_N hown hK hP 0 rfl rfl 1 (by decide) (hg _ t_619) (fun _ h9 => h9) rfl d_N_set_45 ?_
        refine lv_bipush (v := 16) hx hb d_N_set_48 (by decide) ?_
        refine lv_iload_n hx hb d_N_set_50 rfl (lv_at hl 1 rfl) ?_
        refine lv_imul hx hb d_N_set_51 ?_
        refine lv_iload_n hx hb d_N_set_52 rfl (lv_at hl 2 rfl) ?_
        refine lv_iadd hx hb d_N_set_53 ?_
        obtain ⟨c9, hF⟩ := qs_in_some hF
        refine va_lald hx hb hK hP 1 0 rfl rfl c9 d_N_set_54 ?_
        refine lv_lstore (lv' := [(5, .long (u3.2 1 ((16 * a1) + a2).toNatClampNeg)), (0, .ref (h 0)), (1, .int (a1)), (2, .int (a2)), (3, .double (a3))]) hx hb d_N_set_55 hl (by decide) rfl (fun ls hl => ?_)
        refine lv_aload_n hx hb d_N_set_57 rfl (lv_at hl 1 rfl) ?_
        refine va_get (D := (dC, dI)) (ci := 7) (v := .ref (h 1)) (C := R_N) (T := T_N) (N := 22) hx hb hg in_N hown hK hP 0 rfl rfl 1 (by decide) (hg _ t_619) (fun _ h9 => h9) rfl d_N_set_58 ?_
        refine lv_bipush (v := 16) hx hb d_N_set_61 (by decide) ?_
        refine lv_iload_n hx hb d_N_set_63 rfl (lv_at hl 2 rfl) ?_
        refine lv_imul hx hb d_N_set_64 ?_
        refine lv_iload_n hx hb d_N_set_65 rfl (lv_at hl 3 rfl) ?_
        refine lv_iadd hx hb d_N_set_66 ?_
        refine lv_dload_n hx hb d_N_set_67 rfl (lv_at hl 4 rfl) ?_
        obtain ⟨r10, hX, hF⟩ := qs_pb_some hF
        refine qs_psl (va_runS (own := "QuakeServerModel") (As := [.double (a3)]) (rest := [.int ((16 * a1) + a2), .ref (h 1)]) ⟨hx, hb, hml, hown, hg⟩ (c_N_eighths l H.size (a3) r10 hX) (va_cwS 1 hg (qs_gS t_722 t_723 t_8 t_724) rfl rfl rfl (by decide +kernel) ⟨Nat.le_of_ble_eq_true rfl, Nat.le_of_ble_eq_true rfl⟩) ⟨qs_blind0, fun U hU hW => ⟨rfl, by rw [hU], hNs.warm hW⟩⟩ rfl rfl hl.1 rfl (lv_room (Nat.le_of_ble_eq_true rfl)) d_N_set_68 ⟨Nat.le_of_ble_eq_true rfl, Nat.le_of_ble_eq_true rfl⟩) hP hD hS hA (fun H locs hP hS => ?_)
        obtain ⟨c11, hF⟩ := qs_in_some hF
        refine va_last hx hb hK hP hD hS 1 0 rfl rfl c11 d_N_set_71 (fun H locs hP hD hS => ?_)
        obtain ⟨u12, hu12, hF⟩ := qs_st_some hF
        have hP : va_P (dC, dI) vwCl (ms_W h c u12) H := by rw [hu12]; exact hP
        have hD : va_D A (ms_W h c u12) := by rw [hu12]; exact hD
        clear hu12
        refine lv_lload hx hb d_N_set_72 (lv_at hl 0 rfl) ?_
        refine lv_l2d hx hb d_N_set_74 ?_
        refine lv_ldc2d (v := 4593671619917905920) hx hb hown (hg _ t_738) d_N_set_75 ?_
        obtain ⟨c13, hF⟩ := qs_nan_some hF
        refine lv_dmul hx hb d_N_set_78 c13 ?_
        obtain ⟨h8, h9⟩ := qs_ret hF
        exact W.dret (v := FP.dmul (FP.l2d (u3.2 1 ((16 * a1) + a2).toNatClampNeg)) (4593671619917905920 : UInt64)) hx hb hr (fun t ht hW => ⟨⟨(FP.dmul (FP.l2d (u3.2 1 ((16 * a1) + a2).toNatClampNeg)) (4593671619917905920 : UInt64)), u12, rfl, ⟨h8, h9⟩, by rw [ht]; exact hP, va_K.moved hW.alike hK, hD⟩, hS.F ht⟩) hS.2.2 d_N_set_79
      · have hF := qs_pos c8 hF
        exact kb_37 u3 H locs ls hP hD hS (lv_sub hl [0] rfl) hF
  · have hF := qs_neg c4 hF
    refine lv_aload_n hx hb d_N_set_13 rfl (lv_at hl 0 rfl) ?_
    refine lv_iconst (v := 1) hx hb d_N_set_14 (by decide) ?_
    obtain ⟨r14, u15, hX, hF⟩ := qs_bn_some hF
    refine qs_ci (Wd := ms_W h c) (isC := [0, 1, 2, 3, 4, 5, 6, 7, 8, 9, 10, 11, 12]) (va_runV (own := "QuakeServerModel") (C := "QuakeServerModel") (As := [.int (1)]) (rest := []) ⟨hx, hb, hml, hown, hg⟩ (c_N_fail l dC dI h c H.size u3 (1) r14 u15 hX) (cwV 1 hg (qs_gV t_697 t_699 tp_17 t_8 t_700) rfl rfl rfl (by decide +kernel) ⟨Nat.le_of_ble_eq_true rfl, Nat.le_of_ble_eq_true rfl⟩) ⟨qs_blind, va_recv hK hP (ci := 7) (q0 := 0) rfl rfl, fun U hU hW => ⟨rfl, by rw [hU], by rw [hU]; exact hP, va_K.moved hW.alike hK, hD.weaken (fun _ _ _ _ => trivial), hNs.warm hW⟩⟩ rfl rfl hl.1 rfl (lv_room (Nat.le_of_ble_eq_true rfl)) d_N_set_15 ⟨Nat.le_of_ble_eq_true rfl, Nat.le_of_ble_eq_true rfl⟩) rfl hP hD hS hA (fun H locs hP hD hS => ?_)
    refine lv_i2d hx hb d_N_set_18 ?_
    obtain ⟨h8, h9⟩ := qs_ret hF
    exact W.dret (v := FP.i2d r14) hx hb hr (fun t ht hW => ⟨⟨(FP.i2d r14), u15, rfl, ⟨h8, h9⟩, by rw [ht]; exact hP, va_K.moved hW.alike hK, hD⟩, hS.F ht⟩) hS.2.2 d_N_set_19

theorem d_N_get_0 : decode b_N_get 0 = .ok (.aload_n 0, 1) := by decide +kernel
theorem d_N_get_1 : decode b_N_get 1 = .ok (.iconst 0, 1) := by decide +kernel
theorem d_N_get_2 : decode b_N_get 2 = .ok (.putfield 52, 3) := by decide +kernel
theorem d_N_get_5 : decode b_N_get 5 = .ok (.aload_n 0, 1) := by decide +kernel
theorem d_N_get_6 : decode b_N_get 6 = .ok (.iload_n 1, 1) := by decide +kernel
theorem d_N_get_7 : decode b_N_get 7 = .ok (.invokevirtual 98, 3) := by decide +kernel
theorem d_N_get_10 : decode b_N_get 10 = .ok (.ifCond .eq 10, 3) := by decide +kernel
theorem d_N_get_13 : decode b_N_get 13 = .ok (.aload_n 0, 1) := by decide +kernel
theorem d_N_get_14 : decode b_N_get 14 = .ok (.iconst 1, 1) := by decide +kernel
theorem d_N_get_15 : decode b_N_get 15 = .ok (.invokevirtual 69, 3) := by decide +kernel
theorem d_N_get_18 : decode b_N_get 18 = .ok (.i2d, 1) := by decide +kernel
theorem d_N_get_19 : decode b_N_get 19 = .ok (.dreturn, 1) := by decide +kernel
theorem d_N_get_20 : decode b_N_get 20 = .ok (.iload_n 2, 1) := by decide +kernel
theorem d_N_get_21 : decode b_N_get 21 = .ok (.iconst 0, 1) := by decide +kernel
theorem d_N_get_22 : decode b_N_get 22 = .ok (.bipush 15, 2) := by decide +kernel
theorem d_N_get_24 : decode b_N_get 24 = .ok (.invokestatic 65, 3) := by decide +kernel
theorem d_N_get_27 : decode b_N_get 27 = .ok (.ifCond .eq 22, 3) := by decide +kernel
theorem d_N_get_30 : decode b_N_get 30 = .ok (.aload_n 0, 1) := by decide +kernel
theorem d_N_get_31 : decode b_N_get 31 = .ok (.getfield 7, 3) := by decide +kernel
theorem d_N_get_34 : decode b_N_get 34 = .ok (.bipush 16, 2) := by decide +kernel
theorem d_N_get_36 : decode b_N_get 36 = .ok (.iload_n 1, 1) := by decide +kernel
theorem d_N_get_37 : decode b_N_get 37 = .ok (.imul, 1) := by decide +kernel
theorem d_N_get_38 : decode b_N_get 38 = .ok (.iload_n 2, 1) := by decide +kernel
theorem d_N_get_39 : decode b_N_get 39 = .ok (.iadd, 1) := by decide +kernel
theorem d_N_get_40 : decode b_N_get 40 = .ok (.laload, 1) := by decide +kernel
theorem d_N_get_41 : decode b_N_get 41 = .ok (.l2d, 1) := by decide +kernel
theorem d_N_get_42 : decode b_N_get 42 = .ok (.ldc2_w 102, 3) := by decide +kernel
theorem d_N_get_45 : decode b_N_get 45 = .ok (.dmul, 1) := by decide +kernel
theorem d_N_get_46 : decode b_N_get 46 = .ok (.goto 9, 3) := by decide +kernel
theorem d_N_get_49 : decode b_N_get 49 = .ok (.aload_n 0, 1) := by decide +kernel
theorem d_N_get_50 : decode b_N_get 50 = .ok (.iconst 2, 1) := by decide +kernel
theorem d_N_get_51 : decode b_N_get 51 = .ok (.invokevirtual 69, 3) := by decide +kernel
theorem d_N_get_54 : decode b_N_get 54 = .ok (.i2d, 1) := by decide +kernel
theorem d_N_get_55 : decode b_N_get 55 = .ok (.dreturn, 1) := by decide +kernel
def f_N_get (g : Sm) (a1 : Int32) (a2 : Int32) : Option (UInt64 × Sm) := (qs_st (qm_i g 20 (0)) fun u1 => (qs_bn (f_N_gone u1 (a1)) fun r2 u3 => (if r2 = 0 then (qs_pb (f_N_in (a2) (0) (15)) fun r5 => (if r5 = 0 then (qs_bn (f_N_fail u3 (2)) fun r7 u8 => (some (FP.i2d r7, u8))) else (qs_in ((16 * a1) + a2) 192 (qs_nan (FP.dmul (FP.l2d (u3.2 1 ((16 * a1) + a2).toNatClampNeg)) (4593671619917905920 : UInt64)) (some (FP.dmul (FP.l2d (u3.2 1 ((16 * a1) + a2).toNatClampNeg)) (4593671619917905920 : UInt64), u3)))))) else (qs_bn (f_N_fail u3 (1)) fun r11 u12 => (some (FP.i2d r11, u12))))))
set_option maxHeartbeats 4000000 in
set_option maxRecDepth 100000 in
theorem c_N_get (l : Launch) (dC : Nat → ClassId) (dI : Nat → Nat → Nat) (h : Nat → Nat) (c : Nat → ClassId) (sz : Nat) (g : Sm) (a1 : Int32) (a2 : Int32) (r0 : UInt64) (u0 : Sm) (hF : f_N_get g a1 a2 = some (r0, u0)) : Met l y_N_get (qs_ws y_N_get b_N_get 3 (some .double)) ({ frames := 1, cells := 0, slots := 0, locals := 22 } : Room) (va_Pc ([.ref (h 0), .int a1, .int a2] : List Value) (fun U => U.heap.size = sz ∧ va_P (dC, dI) vwCl (ms_W h c g) U.heap ∧ va_K (dC, dI) vwCl (ms_T c) U ∧ va_D (fun _ => True) (ms_W h c g) ∧ qs_N U)) (va_Qd (fun (r : UInt64) (u : Sm) => r = r0 ∧ u = u0) (ms_at dC dI h c (va_A (ms_W h c g) sz)) (va_A (ms_W h c g) sz)) 0 0 (va_A (ms_W h c g) sz) := by
  refine Met.ofW (cc := b_N_get) (maxL := 3) (ret := (some .double)) (by decide +kernel) rfl ?_
  intro p e s m args below meth cd s₁ B hml hv
  obtain ⟨rfl, hsz, hP, hK, hD0, hNs⟩ := hv
  have hx := B.exec
  have hb := B.bytes
  have hr := B.returns
  have hts := atoms_spec (ws := (qs_ws y_N_get b_N_get 3 (some .double))) B.pre
  have hg : ∀ w ∈ qs_gt, w.before _ s = true := fun w h => hts w (List.mem_cons_of_mem _ h)
  have hown : s.vm.findClass R_N = some m.cls := findClass_of_methodNamed B.named
  have hlocks := B.notSynchronized
  subst hsz
  have hD := hD0.self (sz := s.heap.size)
  generalize hAe : va_A (ms_W h c g) s.heap.size = A at hD ⊢
  have hA : ∀ q : Nat, s.heap.size ≤ q → A q := fun q h => by rw [← hAe]; exact Or.inr h
  have hS : va_S A s.heap s.heap [] := va_S.rf
  have hl := lv_entry ([.ref (h 0), .int a1, .int a2] : List Value) (n := 3) (Nat.le_of_ble_eq_true rfl)
  rw [lg_entry_eq]
  generalize (lg_sl ([.ref (h 0), .int a1, .int a2] : List Value) ++ List.replicate (3 - (lg_sl ([.ref (h 0), .int a1, .int a2] : List Value)).length) Slot.unset).toArray = ls at hl ⊢
  have hl : lv_has ls 3 [(0, .ref (h 0)), (1, .int (a1)), (2, .int (a2))] := hl
  unfold f_N_get at hF
  obtain ⟨H, hHe⟩ : ∃ H, H = s.heap := ⟨_, rfl⟩
  obtain ⟨locs, hLe⟩ : ∃ L : List Loc, L = [] := ⟨_, rfl⟩
  rw [← hHe] at hP ⊢
  rw [← hLe]
  have hS : va_S A s.heap H locs := by rw [hHe, hLe]; exact hS
  refine lv_aload_n hx hb d_N_get_0 rfl (lv_at hl 0 rfl) ?_
  refine lv_iconst (v := 0) hx hb d_N_get_1 (by decide) ?_
  refine va_put (D := (dC, dI)) (ci := 7) (v := .int (0)) (ty := .int) (C := R_N) (T := T_N) (N := 22) hx hb hg in_N ty_N ty_N_ok nm_N hown hK hP hD hS 0 rfl rfl 0 (by decide) (hg _ t_618) (fun _ h9 => h9) rfl (by decide +kernel) rfl rfl (Nat.le_of_ble_eq_true rfl) d_N_get_2 (fun H locs hP hD hS => ?_)
  obtain ⟨u1, hu1, hF⟩ := qs_st_some hF
  have hP : va_P (dC, dI) vwCl (ms_W h c u1) H := by rw [hu1]; exact hP
  have hD : va_D A (ms_W h c u1) := by rw [hu1]; exact hD
  clear hu1
  refine lv_aload_n hx hb d_N_get_5 rfl (lv_at hl 0 rfl) ?_
  refine lv_iload_n hx hb d_N_get_6 rfl (lv_at hl 1 rfl) ?_
  obtain ⟨r2, u3, hX, hF⟩ := qs_bn_some hF
  refine qs_ci (Wd := ms_W h c) (isC := [0, 1, 2, 3, 4, 5, 6, 7, 8, 9, 10, 11, 12]) (va_runV (own := "QuakeServerModel") (C := "QuakeServerModel") (As := [.int (a1)]) (rest := []) ⟨hx, hb, hml, hown, hg⟩ (c_N_gone l dC dI h c H.size u1 (a1) r2 u3 hX) (cwV 1 hg (qs_gV t_730 t_732 tp_19 t_8 t_733) rfl rfl rfl (by decide +kernel) ⟨Nat.le_of_ble_eq_true rfl, Nat.le_of_ble_eq_true rfl⟩) ⟨qs_blind, va_recv hK hP (ci := 7) (q0 := 0) rfl rfl, fun U hU hW => ⟨rfl, by rw [hU], by rw [hU]; exact hP, va_K.moved hW.alike hK, hD.weaken (fun _ _ _ _ => trivial), hNs.warm hW⟩⟩ rfl rfl hl.1 rfl (lv_room (Nat.le_of_ble_eq_true rfl)) d_N_get_7 ⟨Nat.le_of_ble_eq_true rfl, Nat.le_of_ble_eq_true rfl⟩) rfl hP hD hS hA (fun H locs hP hD hS => ?_)
  refine lv_if_eq (tgt := 20) hx hb d_N_get_10 (by decide) (fun c4 => ?_) (fun c4 => ?_)
  · have hF := qs_pos c4 hF
    refine lv_iload_n hx hb d_N_get_20 rfl (lv_at hl 2 rfl) ?_
    refine lv_iconst (v := 0) hx hb d_N_get_21 (by decide) ?_
    refine lv_bipush (v := 15) hx hb d_N_get_22 (by decide) ?_
    obtain ⟨r5, hX, hF⟩ := qs_pb_some hF
    refine qs_psi (va_runS (own := "QuakeServerModel") (As := [.int (a2), .int (0), .int (15)]) (rest := []) ⟨hx, hb, hml, hown, hg⟩ (c_N_in l H.size (a2) (0) (15) r5 hX) (va_cwS 3 hg (qs_gS t_694 t_695 t_8 t_696) rfl rfl rfl (by decide +kernel) ⟨Nat.le_of_ble_eq_true rfl, Nat.le_of_ble_eq_true rfl⟩) ⟨qs_blind0, fun U hU hW => ⟨rfl, by rw [hU], hNs.warm hW⟩⟩ rfl rfl hl.1 rfl (lv_room (Nat.le_of_ble_eq_true rfl)) d_N_get_24 ⟨Nat.le_of_ble_eq_true rfl, Nat.le_of_ble_eq_true rfl⟩) hP hD hS hA (fun H locs hP hS => ?_)
    refine lv_if_eq (tgt := 49) hx hb d_N_get_27 (by decide) (fun c6 => ?_) (fun c6 => ?_)
    · have hF := qs_pos c6 hF
      refine lv_aload_n hx hb d_N_get_49 rfl (lv_at hl 0 rfl) ?_
      refine lv_iconst (v := 2) hx hb d_N_get_50 (by decide) ?_
      obtain ⟨r7, u8, hX, hF⟩ := qs_bn_some hF
      refine qs_ci (Wd := ms_W h c) (isC := [0, 1, 2, 3, 4, 5, 6, 7, 8, 9, 10, 11, 12]) (va_runV (own := "QuakeServerModel") (C := "QuakeServerModel") (As := [.int (2)]) (rest := []) ⟨hx, hb, hml, hown, hg⟩ (c_N_fail l dC dI h c H.size u3 (2) r7 u8 hX) (cwV 1 hg (qs_gV t_697 t_699 tp_17 t_8 t_700) rfl rfl rfl (by decide +kernel) ⟨Nat.le_of_ble_eq_true rfl, Nat.le_of_ble_eq_true rfl⟩) ⟨qs_blind, va_recv hK hP (ci := 7) (q0 := 0) rfl rfl, fun U hU hW => ⟨rfl, by rw [hU], by rw [hU]; exact hP, va_K.moved hW.alike hK, hD.weaken (fun _ _ _ _ => trivial), hNs.warm hW⟩⟩ rfl rfl hl.1 rfl (lv_room (Nat.le_of_ble_eq_true rfl)) d_N_get_51 ⟨Nat.le_of_ble_eq_true rfl, Nat.le_of_ble_eq_true rfl⟩) rfl hP hD hS hA (fun H locs hP hD hS => ?_)
      refine lv_i2d hx hb d_N_get_54 ?_
      obtain ⟨h8, h9⟩ := qs_ret hF
      exact W.dret (v := FP.i2d r7) hx hb hr (fun t ht hW => ⟨⟨(FP.i2d r7), u8, rfl, ⟨h8, h9⟩, by rw [ht]; exact hP, va_K.moved hW.alike hK, hD⟩, hS.F ht⟩) hS.2.2 d_N_get_55
    · have hF := qs_neg c6 hF
      refine lv_aload_n hx hb d_N_get_30 rfl (lv_at hl 0 rfl) ?_
      refine va_get (D := (dC, dI)) (ci := 7) (v := .ref (h 1)) (C := R_N) (T := T_N) (N := 22) hx hb hg in_N hown hK hP 0 rfl rfl 1 (by decide) (hg _ t_619) (fun _ h9 => h9) rfl d_N_get_31 ?_
      refine lv_bipush (v := 16) hx hb d_N_get_34 (by decide) ?_
      refine lv_iload_n hx hb d_N_get_36 rfl (lv_at hl 1 rfl) ?_
      refine lv_imul hx hb d_N_get_37 ?_
      refine lv_iload_n hx hb d_N_get_38 rfl (lv_at hl 2 rfl) ?_
      refine lv_iadd hx hb d_N_get_39 ?_
      obtain ⟨c9, hF⟩ := qs_in_some hF
      refine va_lald hx hb hK hP 1 0 rfl rfl c9 d_N_get_40 ?_
      refine lv_l2d hx hb d_N_get_41 ?_
      refine lv_ldc2d (v := 4593671619917905920) hx hb hown (hg _ t_738) d_N_get_42 ?_
      obtain ⟨c10, hF⟩ := qs_nan_some hF
      refine lv_dmul hx hb d_N_get_45 c10 ?_
      refine lv_goto (tgt := 55) hx hb d_N_get_46 (by decide) ?_
      obtain ⟨h8, h9⟩ := qs_ret hF
      exact W.dret (v := FP.dmul (FP.l2d (u3.2 1 ((16 * a1) + a2).toNatClampNeg)) (4593671619917905920 : UInt64)) hx hb hr (fun t ht hW => ⟨⟨(FP.dmul (FP.l2d (u3.2 1 ((16 * a1) + a2).toNatClampNeg)) (4593671619917905920 : UInt64)), u3, rfl, ⟨h8, h9⟩, by rw [ht]; exact hP, va_K.moved hW.alike hK, hD⟩, hS.F ht⟩) hS.2.2 d_N_get_55
  · have hF := qs_neg c4 hF
    refine lv_aload_n hx hb d_N_get_13 rfl (lv_at hl 0 rfl) ?_
    refine lv_iconst (v := 1) hx hb d_N_get_14 (by decide) ?_
    obtain ⟨r11, u12, hX, hF⟩ := qs_bn_some hF
    refine qs_ci (Wd := ms_W h c) (isC := [0, 1, 2, 3, 4, 5, 6, 7, 8, 9, 10, 11, 12]) (va_runV (own := "QuakeServerModel") (C := "QuakeServerModel") (As := [.int (1)]) (rest := []) ⟨hx, hb, hml, hown, hg⟩ (c_N_fail l dC dI h c H.size u3 (1) r11 u12 hX) (cwV 1 hg (qs_gV t_697 t_699 tp_17 t_8 t_700) rfl rfl rfl (by decide +kernel) ⟨Nat.le_of_ble_eq_true rfl, Nat.le_of_ble_eq_true rfl⟩) ⟨qs_blind, va_recv hK hP (ci := 7) (q0 := 0) rfl rfl, fun U hU hW => ⟨rfl, by rw [hU], by rw [hU]; exact hP, va_K.moved hW.alike hK, hD.weaken (fun _ _ _ _ => trivial), hNs.warm hW⟩⟩ rfl rfl hl.1 rfl (lv_room (Nat.le_of_ble_eq_true rfl)) d_N_get_15 ⟨Nat.le_of_ble_eq_true rfl, Nat.le_of_ble_eq_true rfl⟩) rfl hP hD hS hA (fun H locs hP hD hS => ?_)
    refine lv_i2d hx hb d_N_get_18 ?_
    obtain ⟨h8, h9⟩ := qs_ret hF
    exact W.dret (v := FP.i2d r11) hx hb hr (fun t ht hW => ⟨⟨(FP.i2d r11), u12, rfl, ⟨h8, h9⟩, by rw [ht]; exact hP, va_K.moved hW.alike hK, hD⟩, hS.F ht⟩) hS.2.2 d_N_get_19

theorem d_N_setGlobal_0 : decode b_N_setGlobal 0 = .ok (.aload_n 0, 1) := by decide +kernel
theorem d_N_setGlobal_1 : decode b_N_setGlobal 1 = .ok (.iconst 0, 1) := by decide +kernel
theorem d_N_setGlobal_2 : decode b_N_setGlobal 2 = .ok (.putfield 52, 3) := by decide +kernel
theorem d_N_setGlobal_5 : decode b_N_setGlobal 5 = .ok (.iload_n 1, 1) := by decide +kernel
theorem d_N_setGlobal_6 : decode b_N_setGlobal 6 = .ok (.iconst 0, 1) := by decide +kernel
theorem d_N_setGlobal_7 : decode b_N_setGlobal 7 = .ok (.bipush 23, 2) := by decide +kernel
theorem d_N_setGlobal_9 : decode b_N_setGlobal 9 = .ok (.invokestatic 65, 3) := by decide +kernel
theorem d_N_setGlobal_12 : decode b_N_setGlobal 12 = .ok (.ifCond .eq 21, 3) := by decide +kernel
theorem d_N_setGlobal_15 : decode b_N_setGlobal 15 = .ok (.iload_n 2, 1) := by decide +kernel
theorem d_N_setGlobal_16 : decode b_N_setGlobal 16 = .ok (.i2l, 1) := by decide +kernel
theorem d_N_setGlobal_17 : decode b_N_setGlobal 17 = .ok (.ldc2_w 55, 3) := by decide +kernel
theorem d_N_setGlobal_20 : decode b_N_setGlobal 20 = .ok (.lcmp, 1) := by decide +kernel
theorem d_N_setGlobal_21 : decode b_N_setGlobal 21 = .ok (.ifCond .lt 12, 3) := by decide +kernel
theorem d_N_setGlobal_24 : decode b_N_setGlobal 24 = .ok (.iload_n 2, 1) := by decide +kernel
theorem d_N_setGlobal_25 : decode b_N_setGlobal 25 = .ok (.i2l, 1) := by decide +kernel
theorem d_N_setGlobal_26 : decode b_N_setGlobal 26 = .ok (.ldc2_w 57, 3) := by decide +kernel
theorem d_N_setGlobal_29 : decode b_N_setGlobal 29 = .ok (.lcmp, 1) := by decide +kernel
theorem d_N_setGlobal_30 : decode b_N_setGlobal 30 = .ok (.ifCond .le 9, 3) := by decide +kernel
theorem d_N_setGlobal_33 : decode b_N_setGlobal 33 = .ok (.aload_n 0, 1) := by decide +kernel
theorem d_N_setGlobal_34 : decode b_N_setGlobal 34 = .ok (.iconst 1, 1) := by decide +kernel
theorem d_N_setGlobal_35 : decode b_N_setGlobal 35 = .ok (.invokevirtual 69, 3) := by decide +kernel
theorem d_N_setGlobal_38 : decode b_N_setGlobal 38 = .ok (.ireturn, 1) := by decide +kernel
theorem d_N_setGlobal_39 : decode b_N_setGlobal 39 = .ok (.aload_n 0, 1) := by decide +kernel
theorem d_N_setGlobal_40 : decode b_N_setGlobal 40 = .ok (.getfield 42, 3) := by decide +kernel
theorem d_N_setGlobal_43 : decode b_N_setGlobal 43 = .ok (.iload_n 1, 1) := by decide +kernel
theorem d_N_setGlobal_44 : decode b_N_setGlobal 44 = .ok (.laload, 1) := by decide +kernel
theorem d_N_setGlobal_45 : decode b_N_setGlobal 45 = .ok (.lstore_n 3, 1) := by decide +kernel
theorem d_N_setGlobal_46 : decode b_N_setGlobal 46 = .ok (.aload_n 0, 1) := by decide +kernel
theorem d_N_setGlobal_47 : decode b_N_setGlobal 47 = .ok (.getfield 42, 3) := by decide +kernel
theorem d_N_setGlobal_50 : decode b_N_setGlobal 50 = .ok (.iload_n 1, 1) := by decide +kernel
theorem d_N_setGlobal_51 : decode b_N_setGlobal 51 = .ok (.iload_n 2, 1) := by decide +kernel
theorem d_N_setGlobal_52 : decode b_N_setGlobal 52 = .ok (.i2l, 1) := by decide +kernel
theorem d_N_setGlobal_53 : decode b_N_setGlobal 53 = .ok (.lastore, 1) := by decide +kernel
theorem d_N_setGlobal_54 : decode b_N_setGlobal 54 = .ok (.lload_n 3, 1) := by decide +kernel
theorem d_N_setGlobal_55 : decode b_N_setGlobal 55 = .ok (.l2i, 1) := by decide +kernel
theorem d_N_setGlobal_56 : decode b_N_setGlobal 56 = .ok (.ireturn, 1) := by decide +kernel
def f_N_setGlobal_33  (g : Sm) : Option (Int32 × Sm) := (qs_bn (f_N_fail g (1)) fun r9 u10 => (some (r9, u10)))
def f_N_setGlobal (g : Sm) (a1 : Int32) (a2 : Int32) : Option (Int32 × Sm) := (qs_st (qm_i g 20 (0)) fun u1 => (qs_pb (f_N_in (a1) (0) (23)) fun r2 => (if r2 = 0 then (f_N_setGlobal_33 u1) else (if (lg_cmp (a2.toInt64) (-131072 : Int64)) < 0 then (f_N_setGlobal_33 u1) else (if (lg_cmp (a2.toInt64) (131072 : Int64)) ≤ 0 then (qs_in (a1) 24 (qs_in (a1) 24 (qs_st (qm_la u1 11 a1.toNatClampNeg (a2.toInt64)) fun u8 => (some ((u1.2 11 a1.toNatClampNeg).toInt32, u8))))) else (f_N_setGlobal_33 u1))))))
set_option maxHeartbeats 4000000 in
set_option maxRecDepth 100000 in
theorem c_N_setGlobal (l : Launch) (dC : Nat → ClassId) (dI : Nat → Nat → Nat) (h : Nat → Nat) (c : Nat → ClassId) (sz : Nat) (g : Sm) (a1 : Int32) (a2 : Int32) (r0 : Int32) (u0 : Sm) (hF : f_N_setGlobal g a1 a2 = some (r0, u0)) : Met l y_N_setGlobal (qs_ws y_N_setGlobal b_N_setGlobal 5 (some .int)) ({ frames := 1, cells := 0, slots := 0, locals := 22 } : Room) (va_Pc ([.ref (h 0), .int a1, .int a2] : List Value) (fun U => U.heap.size = sz ∧ va_P (dC, dI) vwCl (ms_W h c g) U.heap ∧ va_K (dC, dI) vwCl (ms_T c) U ∧ va_D (fun _ => True) (ms_W h c g) ∧ qs_N U)) (va_Qi (fun (r : Int32) (u : Sm) => r = r0 ∧ u = u0) (ms_at dC dI h c (va_A (ms_W h c g) sz)) (va_A (ms_W h c g) sz)) 0 0 (va_A (ms_W h c g) sz) := by
  refine Met.ofW (cc := b_N_setGlobal) (maxL := 5) (ret := (some .int)) (by decide +kernel) rfl ?_
  intro p e s m args below meth cd s₁ B hml hv
  obtain ⟨rfl, hsz, hP, hK, hD0, hNs⟩ := hv
  have hx := B.exec
  have hb := B.bytes
  have hr := B.returns
  have hts := atoms_spec (ws := (qs_ws y_N_setGlobal b_N_setGlobal 5 (some .int))) B.pre
  have hg : ∀ w ∈ qs_gt, w.before _ s = true := fun w h => hts w (List.mem_cons_of_mem _ h)
  have hown : s.vm.findClass R_N = some m.cls := findClass_of_methodNamed B.named
  have hlocks := B.notSynchronized
  subst hsz
  have hD := hD0.self (sz := s.heap.size)
  generalize hAe : va_A (ms_W h c g) s.heap.size = A at hD ⊢
  have hA : ∀ q : Nat, s.heap.size ≤ q → A q := fun q h => by rw [← hAe]; exact Or.inr h
  have hS : va_S A s.heap s.heap [] := va_S.rf
  have kb_33 : ∀ (g : Sm) (H : Heap) (locs : List Loc) (ls : Array Slot), va_P (dC, dI) vwCl (ms_W h c g) H → va_D A (ms_W h c g) → va_S A s.heap H locs → lv_has ls 5 [(0, .ref (h 0))] → f_N_setGlobal_33  g = some (r0, u0) → W p l e (headSpec (qs_ws y_N_setGlobal b_N_setGlobal 5 (some .int)) ({ frames := 1, cells := 0, slots := 0, locals := 22 } : Room)).room s m ([.ref (h 0), .int a1, .int a2] : List Value).toArray below meth cd H locs 0 0 (MQ below (va_Qi (fun (r : Int32) (u : Sm) => r = r0 ∧ u = u0) (ms_at dC dI h c A) A) ([.ref (h 0), .int a1, .int a2] : List Value).toArray s 0 0 A) (F0 m 33 ls []) := by
    intro g H locs ls hP hD hS hl hF
    unfold f_N_setGlobal_33 at hF
    refine lv_aload_n hx hb d_N_setGlobal_33 rfl (lv_at hl 0 rfl) ?_
    refine lv_iconst (v := 1) hx hb d_N_setGlobal_34 (by decide) ?_
    obtain ⟨r9, u10, hX, hF⟩ := qs_bn_some hF
    refine qs_ci (Wd := ms_W h c) (isC := [0, 1, 2, 3, 4, 5, 6, 7, 8, 9, 10, 11, 12]) (va_runV (own := "QuakeServerModel") (C := "QuakeServerModel") (As := [.int (1)]) (rest := []) ⟨hx, hb, hml, hown, hg⟩ (c_N_fail l dC dI h c H.size g (1) r9 u10 hX) (cwV 1 hg (qs_gV t_697 t_699 tp_17 t_8 t_700) rfl rfl rfl (by decide +kernel) ⟨Nat.le_of_ble_eq_true rfl, Nat.le_of_ble_eq_true rfl⟩) ⟨qs_blind, va_recv hK hP (ci := 7) (q0 := 0) rfl rfl, fun U hU hW => ⟨rfl, by rw [hU], by rw [hU]; exact hP, va_K.moved hW.alike hK, hD.weaken (fun _ _ _ _ => trivial), hNs.warm hW⟩⟩ rfl rfl hl.1 rfl (lv_room (Nat.le_of_ble_eq_true rfl)) d_N_setGlobal_35 ⟨Nat.le_of_ble_eq_true rfl, Nat.le_of_ble_eq_true rfl⟩) rfl hP hD hS hA (fun H locs hP hD hS => ?_)
    obtain ⟨h8, h9⟩ := qs_ret hF
    exact W.iret (v := r9) hx hb hr (fun t ht hW => ⟨⟨r9, u10, rfl, ⟨h8, h9⟩, by rw [ht]; exact hP, va_K.moved hW.alike hK, hD⟩, hS.F ht⟩) hS.2.2 d_N_setGlobal_38
  have hl := lv_entry ([.ref (h 0), .int a1, .int a2] : List Value) (n := 5) (Nat.le_of_ble_eq_true rfl)
  rw [lg_entry_eq]
  generalize (lg_sl ([.ref (h 0), .int a1, .int a2] : List Value) ++ List.replicate (5 - (lg_sl ([.ref (h 0), .int a1, .int a2] : List Value)).length) Slot.unset).toArray = ls at hl ⊢
  have hl : lv_has ls 5 [(0, .ref (h 0)), (1, .int (a1)), (2, .int (a2))] := hl
  unfold f_N_setGlobal at hF
  obtain ⟨H, hHe⟩ : ∃ H, H = s.heap := ⟨_, rfl⟩
  obtain ⟨locs, hLe⟩ : ∃ L : List Loc, L = [] := ⟨_, rfl⟩
  rw [← hHe] at hP ⊢
  rw [← hLe]
  have hS : va_S A s.heap H locs := by rw [hHe, hLe]; exact hS
  refine lv_aload_n hx hb d_N_setGlobal_0 rfl (lv_at hl 0 rfl) ?_
  refine lv_iconst (v := 0) hx hb d_N_setGlobal_1 (by decide) ?_
  refine va_put (D := (dC, dI)) (ci := 7) (v := .int (0)) (ty := .int) (C := R_N) (T := T_N) (N := 22) hx hb hg in_N ty_N ty_N_ok nm_N hown hK hP hD hS 0 rfl rfl 0 (by decide) (hg _ t_618) (fun _ h9 => h9) rfl (by decide +kernel) rfl rfl (Nat.le_of_ble_eq_true rfl) d_N_setGlobal_2 (fun H locs hP hD hS => ?_)
  obtain ⟨u1, hu1, hF⟩ := qs_st_some hF
  have hP : va_P (dC, dI) vwCl (ms_W h c u1) H := by rw [hu1]; exact hP
  have hD : va_D A (ms_W h c u1) := by rw [hu1]; exact hD
  clear hu1
  refine lv_iload_n hx hb d_N_setGlobal_5 rfl (lv_at hl 1 rfl) ?_
  refine lv_iconst (v := 0) hx hb d_N_setGlobal_6 (by decide) ?_
  refine lv_bipush (v := 23) hx hb d_N_setGlobal_7 (by decide) ?_
  obtain ⟨r2, hX, hF⟩ := qs_pb_some hF
  refine qs_psi (va_runS (own := "QuakeServerModel") (As := [.int (a1), .int (0), .int (23)]) (rest := []) ⟨hx, hb, hml, hown, hg⟩ (c_N_in l H.size (a1) (0) (23) r2 hX) (va_cwS 3 hg (qs_gS t_694 t_695 t_8 t_696) rfl rfl rfl (by decide +kernel) ⟨Nat.le_of_ble_eq_true rfl, Nat.le_of_ble_eq_true rfl⟩) ⟨qs_blind0, fun U hU hW => ⟨rfl, by rw [hU], hNs.warm hW⟩⟩ rfl rfl hl.1 rfl (lv_room (Nat.le_of_ble_eq_true rfl)) d_N_setGlobal_9 ⟨Nat.le_of_ble_eq_true rfl, Nat.le_of_ble_eq_true rfl⟩) hP hD hS hA (fun H locs hP hS => ?_)
  refine lv_if_eq (tgt := 33) hx hb d_N_setGlobal_12 (by decide) (fun c3 => ?_) (fun c3 => ?_)
  · have hF := qs_pos c3 hF
    exact kb_33 u1 H locs ls hP hD hS (lv_sub hl [0] rfl) hF
  · have hF := qs_neg c3 hF
    refine lv_iload_n hx hb d_N_setGlobal_15 rfl (lv_at hl 2 rfl) ?_
    refine lv_i2l (v := a2.toInt64) hx hb d_N_setGlobal_16 rfl ?_
    refine lv_ldc2 (v := (-131072)) hx hb hown (hg _ t_747) d_N_setGlobal_17 ?_
    refine W.lcmp hx hb d_N_setGlobal_20 ?_
    refine lv_if_lt (tgt := 33) hx hb d_N_setGlobal_21 (by decide) (fun c4 => ?_) (fun c4 => ?_)
    · have hF := qs_pos c4 hF
      exact kb_33 u1 H locs ls hP hD hS (lv_sub hl [0] rfl) hF
    · have hF := qs_neg c4 hF
      refine lv_iload_n hx hb d_N_setGlobal_24 rfl (lv_at hl 2 rfl) ?_
      refine lv_i2l (v := a2.toInt64) hx hb d_N_setGlobal_25 rfl ?_
      refine lv_ldc2 (v := 131072) hx hb hown (hg _ t_748) d_N_setGlobal_26 ?_
      refine W.lcmp hx hb d_N_setGlobal_29 ?_
      refine lv_if_le (tgt := 39) hx hb d_N_setGlobal_30 (by decide) (fun c5 => ?_) (fun c5 => ?_)
      · have hF := qs_pos c5 hF
        refine lv_aload_n hx hb d_N_setGlobal_39 rfl (lv_at hl 0 rfl) ?_
        refine va_get (D := (dC, dI)) (ci := 7) (v := .ref (h 11)) (C := R_N) (T := T_N) (N := 22) hx hb hg in_N hown hK hP 0 rfl rfl 12 (by decide) (hg _ t_630) (fun _ h9 => h9) rfl d_N_setGlobal_40 ?_
        refine lv_iload_n hx hb d_N_setGlobal_43 rfl (lv_at hl 1 rfl) ?_
        obtain ⟨c6, hF⟩ := qs_in_some hF
        refine va_lald hx hb hK hP 11 10 rfl rfl c6 d_N_setGlobal_44 ?_
        refine lv_lstore_n (lv' := [(3, .long (u1.2 11 a1.toNatClampNeg)), (0, .ref (h 0)), (1, .int (a1)), (2, .int (a2))]) hx hb d_N_setGlobal_45 rfl hl (by decide) rfl (fun ls hl => ?_)
        refine lv_aload_n hx hb d_N_setGlobal_46 rfl (lv_at hl 1 rfl) ?_
        refine va_get (D := (dC, dI)) (ci := 7) (v := .ref (h 11)) (C := R_N) (T := T_N) (N := 22) hx hb hg in_N hown hK hP 0 rfl rfl 12 (by decide) (hg _ t_630) (fun _ h9 => h9) rfl d_N_setGlobal_47 ?_
        refine lv_iload_n hx hb d_N_setGlobal_50 rfl (lv_at hl 2 rfl) ?_
        refine lv_iload_n hx hb d_N_setGlobal_51 rfl (lv_at hl 3 rfl) ?_
        refine lv_i2l (v := a2.toInt64) hx hb d_N_setGlobal_52 rfl ?_
        obtain ⟨c7, hF⟩ := qs_in_some hF
        refine va_last hx hb hK hP hD hS 11 10 rfl rfl c7 d_N_setGlobal_53 (fun H locs hP hD hS => ?_)
        obtain ⟨u8, hu8, hF⟩ := qs_st_some hF
        have hP : va_P (dC, dI) vwCl (ms_W h c u8) H := by rw [hu8]; exact hP
        have hD : va_D A (ms_W h c u8) := by rw [hu8]; exact hD
        clear hu8
        refine lv_lload_n hx hb d_N_setGlobal_54 rfl (lv_at hl 0 rfl) ?_
        refine lv_l2i (v := (u1.2 11 a1.toNatClampNeg).toInt32) hx hb d_N_setGlobal_55 rfl ?_
        obtain ⟨h8, h9⟩ := qs_ret hF
        exact W.iret (v := (u1.2 11 a1.toNatClampNeg).toInt32) hx hb hr (fun t ht hW => ⟨⟨((u1.2 11 a1.toNatClampNeg).toInt32), u8, rfl, ⟨h8, h9⟩, by rw [ht]; exact hP, va_K.moved hW.alike hK, hD⟩, hS.F ht⟩) hS.2.2 d_N_setGlobal_56
      · have hF := qs_neg c5 hF
        exact kb_33 u1 H locs ls hP hD hS (lv_sub hl [0] rfl) hF

theorem d_N_global_0 : decode b_N_global 0 = .ok (.aload_n 0, 1) := by decide +kernel
theorem d_N_global_1 : decode b_N_global 1 = .ok (.iconst 0, 1) := by decide +kernel
theorem d_N_global_2 : decode b_N_global 2 = .ok (.putfield 52, 3) := by decide +kernel
theorem d_N_global_5 : decode b_N_global 5 = .ok (.iload_n 1, 1) := by decide +kernel
theorem d_N_global_6 : decode b_N_global 6 = .ok (.iconst 0, 1) := by decide +kernel
theorem d_N_global_7 : decode b_N_global 7 = .ok (.bipush 23, 2) := by decide +kernel
theorem d_N_global_9 : decode b_N_global 9 = .ok (.invokestatic 65, 3) := by decide +kernel
theorem d_N_global_12 : decode b_N_global 12 = .ok (.ifCond .eq 13, 3) := by decide +kernel
theorem d_N_global_15 : decode b_N_global 15 = .ok (.aload_n 0, 1) := by decide +kernel
theorem d_N_global_16 : decode b_N_global 16 = .ok (.getfield 42, 3) := by decide +kernel
theorem d_N_global_19 : decode b_N_global 19 = .ok (.iload_n 1, 1) := by decide +kernel
theorem d_N_global_20 : decode b_N_global 20 = .ok (.laload, 1) := by decide +kernel
theorem d_N_global_21 : decode b_N_global 21 = .ok (.l2i, 1) := by decide +kernel
theorem d_N_global_22 : decode b_N_global 22 = .ok (.goto 8, 3) := by decide +kernel
theorem d_N_global_25 : decode b_N_global 25 = .ok (.aload_n 0, 1) := by decide +kernel
theorem d_N_global_26 : decode b_N_global 26 = .ok (.iconst 1, 1) := by decide +kernel
theorem d_N_global_27 : decode b_N_global 27 = .ok (.invokevirtual 69, 3) := by decide +kernel
theorem d_N_global_30 : decode b_N_global 30 = .ok (.ireturn, 1) := by decide +kernel
def f_N_global (g : Sm) (a1 : Int32) : Option (Int32 × Sm) := (qs_st (qm_i g 20 (0)) fun u1 => (qs_pb (f_N_in (a1) (0) (23)) fun r2 => (if r2 = 0 then (qs_bn (f_N_fail u1 (1)) fun r4 u5 => (some (r4, u5))) else (qs_in (a1) 24 (some ((u1.2 11 a1.toNatClampNeg).toInt32, u1))))))
set_option maxHeartbeats 4000000 in
set_option maxRecDepth 100000 in
theorem c_N_global (l : Launch) (dC : Nat → ClassId) (dI : Nat → Nat → Nat) (h : Nat → Nat) (c : Nat → ClassId) (sz : Nat) (g : Sm) (a1 : Int32) (r0 : Int32) (u0 : Sm) (hF : f_N_global g a1 = some (r0, u0)) : Met l y_N_global (qs_ws y_N_global b_N_global 2 (some .int)) ({ frames := 1, cells := 0, slots := 0, locals := 22 } : Room) (va_Pc ([.ref (h 0), .int a1] : List Value) (fun U => U.heap.size = sz ∧ va_P (dC, dI) vwCl (ms_W h c g) U.heap ∧ va_K (dC, dI) vwCl (ms_T c) U ∧ va_D (fun _ => True) (ms_W h c g) ∧ qs_N U)) (va_Qi (fun (r : Int32) (u : Sm) => r = r0 ∧ u = u0) (ms_at dC dI h c (va_A (ms_W h c g) sz)) (va_A (ms_W h c g) sz)) 0 0 (va_A (ms_W h c g) sz) := by
  refine Met.ofW (cc := b_N_global) (maxL := 2) (ret := (some .int)) (by decide +kernel) rfl ?_
  intro p e s m args below meth cd s₁ B hml hv
  obtain ⟨rfl, hsz, hP, hK, hD0, hNs⟩ := hv
  have hx := B.exec
  have hb := B.bytes
  have hr := B.returns
  have hts := atoms_spec (ws := (qs_ws y_N_global b_N_global 2 (some .int))) B.pre
  have hg : ∀ w ∈ qs_gt, w.before _ s = true := fun w h => hts w (List.mem_cons_of_mem _ h)
  have hown : s.vm.findClass R_N = some m.cls := findClass_of_methodNamed B.named
  have hlocks := B.notSynchronized
  subst hsz
  have hD := hD0.self (sz := s.heap.size)
  generalize hAe : va_A (ms_W h c g) s.heap.size = A at hD ⊢
  have hA : ∀ q : Nat, s.heap.size ≤ q → A q := fun q h => by rw [← hAe]; exact Or.inr h
  have hS : va_S A s.heap s.heap [] := va_S.rf
  have hl := lv_entry ([.ref (h 0), .int a1] : List Value) (n := 2) (Nat.le_of_ble_eq_true rfl)
  rw [lg_entry_eq]
  generalize (lg_sl ([.ref (h 0), .int a1] : List Value) ++ List.replicate (2 - (lg_sl ([.ref (h 0), .int a1] : List Value)).length) Slot.unset).toArray = ls at hl ⊢
  have hl : lv_has ls 2 [(0, .ref (h 0)), (1, .int (a1))] := hl
  unfold f_N_global at hF
  obtain ⟨H, hHe⟩ : ∃ H, H = s.heap := ⟨_, rfl⟩
  obtain ⟨locs, hLe⟩ : ∃ L : List Loc, L = [] := ⟨_, rfl⟩
  rw [← hHe] at hP ⊢
  rw [← hLe]
  have hS : va_S A s.heap H locs := by rw [hHe, hLe]; exact hS
  refine lv_aload_n hx hb d_N_global_0 rfl (lv_at hl 0 rfl) ?_
  refine lv_iconst (v := 0) hx hb d_N_global_1 (by decide) ?_
  refine va_put (D := (dC, dI)) (ci := 7) (v := .int (0)) (ty := .int) (C := R_N) (T := T_N) (N := 22) hx hb hg in_N ty_N ty_N_ok nm_N hown hK hP hD hS 0 rfl rfl 0 (by decide) (hg _ t_618) (fun _ h9 => h9) rfl (by decide +kernel) rfl rfl (Nat.le_of_ble_eq_true rfl) d_N_global_2 (fun H locs hP hD hS => ?_)
  obtain ⟨u1, hu1, hF⟩ := qs_st_some hF
  have hP : va_P (dC, dI) vwCl (ms_W h c u1) H := by rw [hu1]; exact hP
  have hD : va_D A (ms_W h c u1) := by rw [hu1]; exact hD
  clear hu1
  refine lv_iload_n hx hb d_N_global_5 rfl (lv_at hl 1 rfl) ?_
  refine lv_iconst (v := 0) hx hb d_N_global_6 (by decide) ?_
  refine lv_bipush (v := 23) hx hb d_N_global_7 (by decide) ?_
  obtain ⟨r2, hX, hF⟩ := qs_pb_some hF
  refine qs_psi (va_runS (own := "QuakeServerModel") (As := [.int (a1), .int (0), .int (23)]) (rest := []) ⟨hx, hb, hml, hown, hg⟩ (c_N_in l H.size (a1) (0) (23) r2 hX) (va_cwS 3 hg (qs_gS t_694 t_695 t_8 t_696) rfl rfl rfl (by decide +kernel) ⟨Nat.le_of_ble_eq_true rfl, Nat.le_of_ble_eq_true rfl⟩) ⟨qs_blind0, fun U hU hW => ⟨rfl, by rw [hU], hNs.warm hW⟩⟩ rfl rfl hl.1 rfl (lv_room (Nat.le_of_ble_eq_true rfl)) d_N_global_9 ⟨Nat.le_of_ble_eq_true rfl, Nat.le_of_ble_eq_true rfl⟩) hP hD hS hA (fun H locs hP hS => ?_)
  refine lv_if_eq (tgt := 25) hx hb d_N_global_12 (by decide) (fun c3 => ?_) (fun c3 => ?_)
  · have hF := qs_pos c3 hF
    refine lv_aload_n hx hb d_N_global_25 rfl (lv_at hl 0 rfl) ?_
    refine lv_iconst (v := 1) hx hb d_N_global_26 (by decide) ?_
    obtain ⟨r4, u5, hX, hF⟩ := qs_bn_some hF
    refine qs_ci (Wd := ms_W h c) (isC := [0, 1, 2, 3, 4, 5, 6, 7, 8, 9, 10, 11, 12]) (va_runV (own := "QuakeServerModel") (C := "QuakeServerModel") (As := [.int (1)]) (rest := []) ⟨hx, hb, hml, hown, hg⟩ (c_N_fail l dC dI h c H.size u1 (1) r4 u5 hX) (cwV 1 hg (qs_gV t_697 t_699 tp_17 t_8 t_700) rfl rfl rfl (by decide +kernel) ⟨Nat.le_of_ble_eq_true rfl, Nat.le_of_ble_eq_true rfl⟩) ⟨qs_blind, va_recv hK hP (ci := 7) (q0 := 0) rfl rfl, fun U hU hW => ⟨rfl, by rw [hU], by rw [hU]; exact hP, va_K.moved hW.alike hK, hD.weaken (fun _ _ _ _ => trivial), hNs.warm hW⟩⟩ rfl rfl hl.1 rfl (lv_room (Nat.le_of_ble_eq_true rfl)) d_N_global_27 ⟨Nat.le_of_ble_eq_true rfl, Nat.le_of_ble_eq_true rfl⟩) rfl hP hD hS hA (fun H locs hP hD hS => ?_)
    obtain ⟨h8, h9⟩ := qs_ret hF
    exact W.iret (v := r4) hx hb hr (fun t ht hW => ⟨⟨r4, u5, rfl, ⟨h8, h9⟩, by rw [ht]; exact hP, va_K.moved hW.alike hK, hD⟩, hS.F ht⟩) hS.2.2 d_N_global_30
  · have hF := qs_neg c3 hF
    refine lv_aload_n hx hb d_N_global_15 rfl (lv_at hl 0 rfl) ?_
    refine va_get (D := (dC, dI)) (ci := 7) (v := .ref (h 11)) (C := R_N) (T := T_N) (N := 22) hx hb hg in_N hown hK hP 0 rfl rfl 12 (by decide) (hg _ t_630) (fun _ h9 => h9) rfl d_N_global_16 ?_
    refine lv_iload_n hx hb d_N_global_19 rfl (lv_at hl 1 rfl) ?_
    obtain ⟨c6, hF⟩ := qs_in_some hF
    refine va_lald hx hb hK hP 11 10 rfl rfl c6 d_N_global_20 ?_
    refine lv_l2i (v := (u1.2 11 a1.toNatClampNeg).toInt32) hx hb d_N_global_21 rfl ?_
    refine lv_goto (tgt := 30) hx hb d_N_global_22 (by decide) ?_
    obtain ⟨h8, h9⟩ := qs_ret hF
    exact W.iret (v := (u1.2 11 a1.toNatClampNeg).toInt32) hx hb hr (fun t ht hW => ⟨⟨((u1.2 11 a1.toNatClampNeg).toInt32), u1, rfl, ⟨h8, h9⟩, by rw [ht]; exact hP, va_K.moved hW.alike hK, hD⟩, hS.F ht⟩) hS.2.2 d_N_global_30
