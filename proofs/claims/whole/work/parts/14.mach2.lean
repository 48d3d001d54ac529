theorem d_M_step_0 : decode b_M_step 0 = .ok (.aload_n 0, 1) := by decide +kernel
theorem d_M_step_1 : decode b_M_step 1 = .ok (.getfield 29, 3) := by decide +kernel
theorem d_M_step_4 : decode b_M_step 4 = .ok (.aload_n 0, 1) := by decide +kernel
theorem d_M_step_5 : decode b_M_step 5 = .ok (.getfield 15, 3) := by decide +kernel
theorem d_M_step_8 : decode b_M_step 8 = .ok (.aload_n 0, 1) := by decide +kernel
theorem d_M_step_9 : decode b_M_step 9 = .ok (.getfield 51, 3) := by decide +kernel
theorem d_M_step_12 : decode b_M_step 12 = .ok (.iaload, 1) := by decide +kernel
theorem d_M_step_13 : decode b_M_step 13 = .ok (.aload_n 0, 1) := by decide +kernel
theorem d_M_step_14 : decode b_M_step 14 = .ok (.getfield 18, 3) := by decide +kernel
theorem d_M_step_17 : decode b_M_step 17 = .ok (.aload_n 0, 1) := by decide +kernel
theorem d_M_step_18 : decode b_M_step 18 = .ok (.getfield 51, 3) := by decide +kernel
theorem d_M_step_21 : decode b_M_step 21 = .ok (.iaload, 1) := by decide +kernel
theorem d_M_step_22 : decode b_M_step 22 = .ok (.invokevirtual 72, 3) := by decide +kernel
theorem d_M_step_25 : decode b_M_step 25 = .ok (.istore_n 1, 1) := by decide +kernel
theorem d_M_step_26 : decode b_M_step 26 = .ok (.aload_n 0, 1) := by decide +kernel
theorem d_M_step_27 : decode b_M_step 27 = .ok (.getfield 29, 3) := by decide +kernel
theorem d_M_step_30 : decode b_M_step 30 = .ok (.getfield 76, 3) := by decide +kernel
theorem d_M_step_33 : decode b_M_step 33 = .ok (.iload_n 1, 1) := by decide +kernel
theorem d_M_step_34 : decode b_M_step 34 = .ok (.iaload, 1) := by decide +kernel
theorem d_M_step_35 : decode b_M_step 35 = .ok (.istore_n 2, 1) := by decide +kernel
theorem d_M_step_36 : decode b_M_step 36 = .ok (.aload_n 0, 1) := by decide +kernel
theorem d_M_step_37 : decode b_M_step 37 = .ok (.getfield 29, 3) := by decide +kernel
theorem d_M_step_40 : decode b_M_step 40 = .ok (.getfield 76, 3) := by decide +kernel
theorem d_M_step_43 : decode b_M_step 43 = .ok (.iload_n 1, 1) := by decide +kernel
theorem d_M_step_44 : decode b_M_step 44 = .ok (.iconst 1, 1) := by decide +kernel
theorem d_M_step_45 : decode b_M_step 45 = .ok (.iadd, 1) := by decide +kernel
theorem d_M_step_46 : decode b_M_step 46 = .ok (.iaload, 1) := by decide +kernel
theorem d_M_step_47 : decode b_M_step 47 = .ok (.istore_n 3, 1) := by decide +kernel
theorem d_M_step_48 : decode b_M_step 48 = .ok (.aload_n 0, 1) := by decide +kernel
theorem d_M_step_49 : decode b_M_step 49 = .ok (.getfield 29, 3) := by decide +kernel
theorem d_M_step_52 : decode b_M_step 52 = .ok (.getfield 76, 3) := by decide +kernel
theorem d_M_step_55 : decode b_M_step 55 = .ok (.iload_n 1, 1) := by decide +kernel
theorem d_M_step_56 : decode b_M_step 56 = .ok (.iconst 2, 1) := by decide +kernel
theorem d_M_step_57 : decode b_M_step 57 = .ok (.iadd, 1) := by decide +kernel
theorem d_M_step_58 : decode b_M_step 58 = .ok (.iaload, 1) := by decide +kernel
theorem d_M_step_59 : decode b_M_step 59 = .ok (.istore 4, 2) := by decide +kernel
theorem d_M_step_61 : decode b_M_step 61 = .ok (.aload_n 0, 1) := by decide +kernel
theorem d_M_step_62 : decode b_M_step 62 = .ok (.getfield 29, 3) := by decide +kernel
theorem d_M_step_65 : decode b_M_step 65 = .ok (.getfield 76, 3) := by decide +kernel
theorem d_M_step_68 : decode b_M_step 68 = .ok (.iload_n 1, 1) := by decide +kernel
theorem d_M_step_69 : decode b_M_step 69 = .ok (.iconst 3, 1) := by decide +kernel
theorem d_M_step_70 : decode b_M_step 70 = .ok (.iadd, 1) := by decide +kernel
theorem d_M_step_71 : decode b_M_step 71 = .ok (.iaload, 1) := by decide +kernel
theorem d_M_step_72 : decode b_M_step 72 = .ok (.istore 5, 2) := by decide +kernel
theorem d_M_step_74 : decode b_M_step 74 = .ok (.aload_n 0, 1) := by decide +kernel
theorem d_M_step_75 : decode b_M_step 75 = .ok (.getfield 18, 3) := by decide +kernel
theorem d_M_step_78 : decode b_M_step 78 = .ok (.aload_n 0, 1) := by decide +kernel
theorem d_M_step_79 : decode b_M_step 79 = .ok (.getfield 51, 3) := by decide +kernel
theorem d_M_step_82 : decode b_M_step 82 = .ok (.dup2, 1) := by decide +kernel
theorem d_M_step_83 : decode b_M_step 83 = .ok (.iaload, 1) := by decide +kernel
theorem d_M_step_84 : decode b_M_step 84 = .ok (.iconst 1, 1) := by decide +kernel
theorem d_M_step_85 : decode b_M_step 85 = .ok (.iadd, 1) := by decide +kernel
theorem d_M_step_86 : decode b_M_step 86 = .ok (.iastore, 1) := by decide +kernel
theorem d_M_step_87 : decode b_M_step 87 = .ok (.iload_n 2, 1) := by decide +kernel
theorem d_M_step_88 : decode b_M_step 88 = .ok (.tableswitch 158 8 16 #[52, 80, 103, 117, 158, 125, 158, 158, 144], 52) := by decide +kernel
theorem d_M_step_140 : decode b_M_step 140 = .ok (.aload_n 0, 1) := by decide +kernel
theorem d_M_step_141 : decode b_M_step 141 = .ok (.getfield 25, 3) := by decide +kernel
theorem d_M_step_144 : decode b_M_step 144 = .ok (.aload_n 0, 1) := by decide +kernel
theorem d_M_step_145 : decode b_M_step 145 = .ok (.getfield 9, 3) := by decide +kernel
theorem d_M_step_148 : decode b_M_step 148 = .ok (.iload_n 3, 1) := by decide +kernel
theorem d_M_step_149 : decode b_M_step 149 = .ok (.iaload, 1) := by decide +kernel
theorem d_M_step_150 : decode b_M_step 150 = .ok (.invokestatic 79, 3) := by decide +kernel
theorem d_M_step_153 : decode b_M_step 153 = .ok (.iload 4, 2) := by decide +kernel
theorem d_M_step_155 : decode b_M_step 155 = .ok (.aload_n 0, 1) := by decide +kernel
theorem d_M_step_156 : decode b_M_step 156 = .ok (.getfield 9, 3) := by decide +kernel
theorem d_M_step_159 : decode b_M_step 159 = .ok (.iload 5, 2) := by decide +kernel
theorem d_M_step_161 : decode b_M_step 161 = .ok (.iaload, 1) := by decide +kernel
theorem d_M_step_162 : decode b_M_step 162 = .ok (.invokevirtual 82, 3) := by decide +kernel
theorem d_M_step_165 : decode b_M_step 165 = .ok (.goto 96, 3) := by decide +kernel
theorem d_M_step_168 : decode b_M_step 168 = .ok (.aload_n 0, 1) := by decide +kernel
theorem d_M_step_169 : decode b_M_step 169 = .ok (.getfield 9, 3) := by decide +kernel
theorem d_M_step_172 : decode b_M_step 172 = .ok (.iload_n 3, 1) := by decide +kernel
theorem d_M_step_173 : decode b_M_step 173 = .ok (.iaload, 1) := by decide +kernel
theorem d_M_step_174 : decode b_M_step 174 = .ok (.ifCond .ne 87, 3) := by decide +kernel
theorem d_M_step_177 : decode b_M_step 177 = .ok (.aload_n 0, 1) := by decide +kernel
theorem d_M_step_178 : decode b_M_step 178 = .ok (.getfield 18, 3) := by decide +kernel
theorem d_M_step_181 : decode b_M_step 181 = .ok (.aload_n 0, 1) := by decide +kernel
theorem d_M_step_182 : decode b_M_step 182 = .ok (.getfield 51, 3) := by decide +kernel
theorem d_M_step_185 : decode b_M_step 185 = .ok (.iload 4, 2) := by decide +kernel
theorem d_M_step_187 : decode b_M_step 187 = .ok (.iastore, 1) := by decide +kernel
theorem d_M_step_188 : decode b_M_step 188 = .ok (.goto 73, 3) := by decide +kernel
theorem d_M_step_191 : decode b_M_step 191 = .ok (.aload_n 0, 1) := by decide +kernel
theorem d_M_step_192 : decode b_M_step 192 = .ok (.getfield 18, 3) := by decide +kernel
theorem d_M_step_195 : decode b_M_step 195 = .ok (.aload_n 0, 1) := by decide +kernel
theorem d_M_step_196 : decode b_M_step 196 = .ok (.getfield 51, 3) := by decide +kernel
theorem d_M_step_199 : decode b_M_step 199 = .ok (.iload 4, 2) := by decide +kernel
theorem d_M_step_201 : decode b_M_step 201 = .ok (.iastore, 1) := by decide +kernel
theorem d_M_step_202 : decode b_M_step 202 = .ok (.goto 59, 3) := by decide +kernel
theorem d_M_step_205 : decode b_M_step 205 = .ok (.aload_n 0, 1) := by decide +kernel
theorem d_M_step_206 : decode b_M_step 206 = .ok (.iload_n 3, 1) := by decide +kernel
theorem d_M_step_207 : decode b_M_step 207 = .ok (.invokevirtual 88, 3) := by decide +kernel
theorem d_M_step_210 : decode b_M_step 210 = .ok (.goto 51, 3) := by decide +kernel
theorem d_M_step_213 : decode b_M_step 213 = .ok (.aload_n 0, 1) := by decide +kernel
theorem d_M_step_214 : decode b_M_step 214 = .ok (.getfield 25, 3) := by decide +kernel
theorem d_M_step_217 : decode b_M_step 217 = .ok (.aload_n 0, 1) := by decide +kernel
theorem d_M_step_218 : decode b_M_step 218 = .ok (.getfield 9, 3) := by decide +kernel
theorem d_M_step_221 : decode b_M_step 221 = .ok (.iload_n 3, 1) := by decide +kernel
theorem d_M_step_222 : decode b_M_step 222 = .ok (.iaload, 1) := by decide +kernel
theorem d_M_step_223 : decode b_M_step 223 = .ok (.invokestatic 79, 3) := by decide +kernel
theorem d_M_step_226 : decode b_M_step 226 = .ok (.invokevirtual 92, 3) := by decide +kernel
theorem d_M_step_229 : decode b_M_step 229 = .ok (.goto 32, 3) := by decide +kernel
theorem d_M_step_232 : decode b_M_step 232 = .ok (.aload_n 0, 1) := by decide +kernel
theorem d_M_step_233 : decode b_M_step 233 = .ok (.getfield 18, 3) := by decide +kernel
theorem d_M_step_236 : decode b_M_step 236 = .ok (.aload_n 0, 1) := by decide +kernel
theorem d_M_step_237 : decode b_M_step 237 = .ok (.getfield 51, 3) := by decide +kernel
theorem d_M_step_240 : decode b_M_step 240 = .ok (.bipush 14, 2) := by decide +kernel
theorem d_M_step_242 : decode b_M_step 242 = .ok (.iastore, 1) := by decide +kernel
theorem d_M_step_243 : decode b_M_step 243 = .ok (.goto 18, 3) := by decide +kernel
theorem d_M_step_246 : decode b_M_step 246 = .ok (.aload_n 0, 1) := by decide +kernel
theorem d_M_step_247 : decode b_M_step 247 = .ok (.getfield 9, 3) := by decide +kernel
theorem d_M_step_250 : decode b_M_step 250 = .ok (.iload 5, 2) := by decide +kernel
theorem d_M_step_252 : decode b_M_step 252 = .ok (.aload_n 0, 1) := by decide +kernel
theorem d_M_step_253 : decode b_M_step 253 = .ok (.iload_n 2, 1) := by decide +kernel
theorem d_M_step_254 : decode b_M_step 254 = .ok (.iload_n 3, 1) := by decide +kernel
theorem d_M_step_255 : decode b_M_step 255 = .ok (.iload 4, 2) := by decide +kernel
theorem d_M_step_257 : decode b_M_step 257 = .ok (.invokevirtual 95, 3) := by decide +kernel
theorem d_M_step_260 : decode b_M_step 260 = .ok (.iastore, 1) := by decide +kernel
theorem d_M_step_261 : decode b_M_step 261 = .ok (.return_, 1) := by decide +kernel
def f_M_step (g : Sg)  : Option (Unit × Sg) := (qs_in (g 21 0) 6 (qs_in (g 21 0) 6 (qs_bn (f_P_firstPart g (g 14 (g 21 0).toNatClampNeg) (g 15 (g 21 0).toNatClampNeg)) fun r3 u4 => (qs_in (r3) 336 (qs_in (r3 + 1) 336 (qs_in (r3 + 2) 336 (qs_in (r3 + 3) 336 (qs_in (u4 21 0) 6 (qs_in (u4 21 0) 6 (qs_st (qs_a u4 15 (u4 21 0).toNatClampNeg ((u4 15 (u4 21 0).toNatClampNeg) + 1)) fun u11 => (if u4 11 r3.toNatClampNeg = 8 then (qs_in (u4 11 (r3 + 1).toNatClampNeg) 24 (qs_pb (f_Q_wholeOf (u11 13 (u4 11 (r3 + 1).toNatClampNeg).toNatClampNeg)) fun r14 => (qs_in (u4 11 (r3 + 3).toNatClampNeg) 24 (qs_bn (f_E_put u11 (r14) (u4 11 (r3 + 2).toNatClampNeg) (u11 13 (u4 11 (r3 + 3).toNatClampNeg).toNatClampNeg)) fun _ u17 => (some ((), u17)))))) else (if u4 11 r3.toNatClampNeg = 9 then (qs_in (u4 11 (r3 + 1).toNatClampNeg) 24 (if (u11 13 (u4 11 (r3 + 1).toNatClampNeg).toNatClampNeg) = 0 then (qs_in (u11 21 0) 6 (qs_st (qs_a u11 15 (u11 21 0).toNatClampNeg (u4 11 (r3 + 2).toNatClampNeg)) fun u22 => (some ((), u22)))) else (some ((), u11)))) else (if u4 11 r3.toNatClampNeg = 10 then (qs_in (u11 21 0) 6 (qs_st (qs_a u11 15 (u11 21 0).toNatClampNeg (u4 11 (r3 + 2).toNatClampNeg)) fun u25 => (some ((), u25)))) else (if u4 11 r3.toNatClampNeg = 11 then (qs_bn (f_M_enter u11 (u4 11 (r3 + 1).toNatClampNeg)) fun _ u28 => (some ((), u28))) else (if u4 11 r3.toNatClampNeg = 12 then (qs_bn (f_M_result u11 (u4 11 r3.toNatClampNeg) (u4 11 (r3 + 1).toNatClampNeg) (u4 11 (r3 + 2).toNatClampNeg)) fun r30 u31 => (qs_in (u4 11 (r3 + 3).toNatClampNeg) 24 (qs_st (qs_a u31 13 (u4 11 (r3 + 3).toNatClampNeg).toNatClampNeg (r30)) fun u33 => (some ((), u33))))) else (if u4 11 r3.toNatClampNeg = 13 then (qs_in (u4 11 (r3 + 1).toNatClampNeg) 24 (qs_pb (f_Q_wholeOf (u11 13 (u4 11 (r3 + 1).toNatClampNeg).toNatClampNeg)) fun r36 => (qs_bn (f_E_erase u11 (r36)) fun _ u38 => (some ((), u38))))) else (if u4 11 r3.toNatClampNeg = 14 then (qs_bn (f_M_result u11 (u4 11 r3.toNatClampNeg) (u4 11 (r3 + 1).toNatClampNeg) (u4 11 (r3 + 2).toNatClampNeg)) fun r40 u41 => (qs_in (u4 11 (r3 + 3).toNatClampNeg) 24 (qs_st (qs_a u41 13 (u4 11 (r3 + 3).toNatClampNeg).toNatClampNeg (r40)) fun u43 => (some ((), u43))))) else (if u4 11 r3.toNatClampNeg = 15 then (qs_bn (f_M_result u11 (u4 11 r3.toNatClampNeg) (u4 11 (r3 + 1).toNatClampNeg) (u4 11 (r3 + 2).toNatClampNeg)) fun r45 u46 => (qs_in (u4 11 (r3 + 3).toNatClampNeg) 24 (qs_st (qs_a u46 13 (u4 11 (r3 + 3).toNatClampNeg).toNatClampNeg (r45)) fun u48 => (some ((), u48))))) else (if u4 11 r3.toNatClampNeg = 16 then (qs_in (u11 21 0) 6 (qs_st (qs_a u11 15 (u11 21 0).toNatClampNeg (14)) fun u51 => (some ((), u51)))) else (qs_bn (f_M_result u11 (u4 11 r3.toNatClampNeg) (u4 11 (r3 + 1).toNatClampNeg) (u4 11 (r3 + 2).toNatClampNeg)) fun r52 u53 => (qs_in (u4 11 (r3 + 3).toNatClampNeg) 24 (qs_st (qs_a u53 13 (u4 11 (r3 + 3).toNatClampNeg).toNatClampNeg (r52)) fun u55 => (some ((), u55))))))))))))))))))))))))
set_option maxHeartbeats 4000000 in
set_option maxRecDepth 100000 in
theorem c_M_step (l : Launch) (dC : Nat → ClassId) (dI : Nat → Nat → Nat) (h : Nat → Nat) (c : Nat → ClassId) (sz : Nat) (g : Sg)  (u0 : Sg) (hF : f_M_step g  = some ((), u0)) : Met l y_M_step (qs_ws y_M_step b_M_step 6 none) ({ frames := 2, cells := 0, slots := 0, locals := 48 } : Room) (va_Pc ([.ref (h 4)] : List Value) (fun U => U.heap.size = sz ∧ va_P (dC, dI) vwCl (qs_W h c g) U.heap ∧ va_K (dC, dI) vwCl (qs_T c) U ∧ va_D (fun _ => True) (qs_W h c g) ∧ qs_N U)) (va_Qv (fun (u : Sg) => u = u0) (qs_at dC dI h c (va_A (qs_W h c g) sz)) (va_A (qs_W h c g) sz)) 0 0 (va_A (qs_W h c g) sz) := by
  refine Met.ofW (cc := b_M_step) (maxL := 6) (ret := none) (by decide +kernel) rfl ?_
  intro p e s m args below meth cd s₁ B hml hv
  obtain ⟨rfl, hsz, hP, hK, hD0, hNs⟩ := hv
  have hx := B.exec
  have hb := B.bytes
  have hr := B.returns
  have hts := atoms_spec (ws := (qs_ws y_M_step b_M_step 6 none)) B.pre
  have hg : ∀ w ∈ qs_gt, w.before _ s = true := fun w h => hts w (List.mem_cons_of_mem _ h)
  have hown : s.vm.findClass R_M = some m.cls := findClass_of_methodNamed B.named
  have hlocks := B.notSynchronized
  subst hsz
  have hD := hD0.self (sz := s.heap.size)
  generalize hAe : va_A (qs_W h c g) s.heap.size = A at hD ⊢
  have hA : ∀ q : Nat, s.heap.size ≤ q → A q := fun q h => by rw [← hAe]; exact Or.inr h
  have hS : va_S A s.heap s.heap [] := va_S.rf
  have hl := lv_entry ([.ref (h 4)] : List Value) (n := 6) (Nat.le_of_ble_eq_true rfl)
  rw [lg_entry_eq]
  generalize (lg_sl ([.ref (h 4)] : List Value) ++ List.replicate (6 - (lg_sl ([.ref (h 4)] : List Value)).length) Slot.unset).toArray = ls at hl ⊢
  have hl : lv_has ls 6 [(0, .ref (h 4))] := hl
  unfold f_M_step at hF
  obtain ⟨H, hHe⟩ : ∃ H, H = s.heap := ⟨_, rfl⟩
  obtain ⟨locs, hLe⟩ : ∃ L : List Loc, L = [] := ⟨_, rfl⟩
  rw [← hHe] at hP ⊢
  rw [← hLe]
  have hS : va_S A s.heap H locs := by rw [hHe, hLe]; exact hS
  refine lv_aload_n hx hb d_M_step_0 rfl (lv_at hl 0 rfl) ?_
  refine va_get (D := (dC, dI)) (ci := 3) (v := .ref (h 3)) (C := R_M) (T := T_M) (N := 11) hx hb hg in_M hown hK hP 4 rfl rfl 1 (by decide) (hg _ t_78) (fun _ h9 => h9) rfl d_M_step_1 ?_
  refine lv_aload_n hx hb d_M_step_4 rfl (lv_at hl 0 rfl) ?_
  refine va_get (D := (dC, dI)) (ci := 3) (v := .ref (h 14)) (C := R_M) (T := T_M) (N := 11) hx hb hg in_M hown hK hP 4 rfl rfl 3 (by decide) (hg _ t_81) (fun _ h9 => h9) rfl d_M_step_5 ?_
  refine lv_aload_n hx hb d_M_step_8 rfl (lv_at hl 0 rfl) ?_
  refine va_get (D := (dC, dI)) (ci := 3) (v := .int (g 21 0)) (C := R_M) (T := T_M) (N := 11) hx hb hg in_M hown hK hP 4 rfl rfl 5 (by decide) (hg _ t_83) (fun _ h9 => h9) rfl d_M_step_9 ?_
  obtain ⟨c1, hF⟩ := qs_in_some hF
  refine va_iald hx hb hK hP 14 7 rfl rfl c1 d_M_step_12 ?_
  refine lv_aload_n hx hb d_M_step_13 rfl (lv_at hl 0 rfl) ?_
  refine va_get (D := (dC, dI)) (ci := 3) (v := .ref (h 15)) (C := R_M) (T := T_M) (N := 11) hx hb hg in_M hown hK hP 4 rfl rfl 4 (by decide) (hg _ t_82) (fun _ h9 => h9) rfl d_M_step_14 ?_
  refine lv_aload_n hx hb d_M_step_17 rfl (lv_at hl 0 rfl) ?_
  refine va_get (D := (dC, dI)) (ci := 3) (v := .int (g 21 0)) (C := R_M) (T := T_M) (N := 11) hx hb hg in_M hown hK hP 4 rfl rfl 5 (by decide) (hg _ t_83) (fun _ h9 => h9) rfl d_M_step_18 ?_
  obtain ⟨c2, hF⟩ := qs_in_some hF
  refine va_iald hx hb hK hP 15 8 rfl rfl c2 d_M_step_21 ?_
  obtain ⟨r3, u4, hX, hF⟩ := qs_bn_some hF
  refine qs_ci (Wd := qs_W h c) (isC := [0, 1, 2, 3, 4, 5, 6, 7, 8, 9, 10, 11, 12, 13, 14, 15, 16]) (va_runV (own := "QuakeServer$Machine") (C := "QuakeServer$Program") (As := [.int (g 14 (g 21 0).toNatClampNeg), .int (g 15 (g 21 0).toNatClampNeg)]) (rest := []) ⟨hx, hb, hml, hown, hg⟩ (c_P_firstPart l dC dI h c H.size g (g 14 (g 21 0).toNatClampNeg) (g 15 (g 21 0).toNatClampNeg) r3 u4 hX) (cwV 2 hg (qs_gV t_455 t_329 t_330 t_4 t_331) rfl rfl rfl (by decide +kernel) ⟨Nat.le_of_ble_eq_true rfl, Nat.le_of_ble_eq_true rfl⟩) ⟨qs_blind, va_recv hK hP (ci := 2) (q0 := 3) rfl rfl, fun U hU hW => ⟨rfl, by rw [hU], by rw [hU]; exact hP, va_K.moved hW.alike hK, hD.weaken (fun _ _ _ _ => trivial), hNs.warm hW⟩⟩ rfl rfl hl.1 rfl (lv_room (Nat.le_of_ble_eq_true rfl)) d_M_step_22 ⟨Nat.le_of_ble_eq_true rfl, Nat.le_of_ble_eq_true rfl⟩) rfl hP hD hS hA (fun H locs hP hD hS => ?_)
  refine lv_istore_n (lv' := [(1, .int (r3)), (0, .ref (h 4))]) hx hb d_M_step_25 rfl hl (by decide) rfl (fun ls hl => ?_)
  refine lv_aload_n hx hb d_M_step_26 rfl (lv_at hl 1 rfl) ?_
  refine va_get (D := (dC, dI)) (ci := 3) (v := .ref (h 3)) (C := R_M) (T := T_M) (N := 11) hx hb hg in_M hown hK hP 4 rfl rfl 1 (by decide) (hg _ t_78) (fun _ h9 => h9) rfl d_M_step_27 ?_
  refine va_getN (D := (dC, dI)) (ci := 2) (v := .ref (h 11)) (C := R_P) (T := T_P) (N := 2) hx hb hg in_P hown hK hP 3 rfl rfl 0 (by decide) (va_Nw.use rfl (nF_2 hNs)) (fun _ h9 => h9) rfl d_M_step_30 ?_
  refine lv_iload_n hx hb d_M_step_33 rfl (lv_at hl 0 rfl) ?_
  obtain ⟨c5, hF⟩ := qs_in_some hF
  refine va_iald hx hb hK hP 11 4 rfl rfl c5 d_M_step_34 ?_
  refine lv_istore_n (lv' := [(2, .int (u4 11 r3.toNatClampNeg)), (1, .int (r3)), (0, .ref (h 4))]) hx hb d_M_step_35 rfl hl (by decide) rfl (fun ls hl => ?_)
  refine lv_aload_n hx hb d_M_step_36 rfl (lv_at hl 2 rfl) ?_
  refine va_get (D := (dC, dI)) (ci := 3) (v := .ref (h 3)) (C := R_M) (T := T_M) (N := 11) hx hb hg in_M hown hK hP 4 rfl rfl 1 (by decide) (hg _ t_78) (fun _ h9 => h9) rfl d_M_step_37 ?_
  refine va_getN (D := (dC, dI)) (ci := 2) (v := .ref (h 11)) (C := R_P) (T := T_P) (N := 2) hx hb hg in_P hown hK hP 3 rfl rfl 0 (by decide) (va_Nw.use rfl (nF_2 hNs)) (fun _ h9 => h9) rfl d_M_step_40 ?_
  refine lv_iload_n hx hb d_M_step_43 rfl (lv_at hl 1 rfl) ?_
  refine lv_iconst (v := 1) hx hb d_M_step_44 (by decide) ?_
  refine lv_iadd hx hb d_M_step_45 ?_
  obtain ⟨c6, hF⟩ := qs_in_some hF
  refine va_iald hx hb hK hP 11 4 rfl rfl c6 d_M_step_46 ?_
  refine lv_istore_n (lv' := [(3, .int (u4 11 (r3 + 1).toNatClampNeg)), (2, .int (u4 11 r3.toNatClampNeg)), (1, .int (r3)), (0, .ref (h 4))]) hx hb d_M_step_47 rfl hl (by decide) rfl (fun ls hl => ?_)
  refine lv_aload_n hx hb d_M_step_48 rfl (lv_at hl 3 rfl) ?_
  refine va_get (D := (dC, dI)) (ci := 3) (v := .ref (h 3)) (C := R_M) (T := T_M) (N := 11) hx hb hg in_M hown hK hP 4 rfl rfl 1 (by decide) (hg _ t_78) (fun _ h9 => h9) rfl d_M_step_49 ?_
  refine va_getN (D := (dC, dI)) (ci := 2) (v := .ref (h 11)) (C := R_P) (T := T_P) (N := 2) hx hb hg in_P hown hK hP 3 rfl rfl 0 (by decide) (va_Nw.use rfl (nF_2 hNs)) (fun _ h9 => h9) rfl d_M_step_52 ?_
  refine lv_iload_n hx hb d_M_step_55 rfl (lv_at hl 2 rfl) ?_
  refine lv_iconst (v := 2) hx hb d_M_step_56 (by decide) ?_
  refine lv_iadd hx hb d_M_step_57 ?_
  obtain ⟨c7, hF⟩ := qs_in_some hF
  refine va_iald hx hb hK hP 11 4 rfl rfl c7 d_M_step_58 ?_
  refine lv_istore (lv' := [(4, .int (u4 11 (r3 + 2).toNatClampNeg)), (3, .int (u4 11 (r3 + 1).toNatClampNeg)), (2, .int (u4 11 r3.toNatClampNeg)), (1, .int (r3)), (0, .ref (h 4))]) hx hb d_M_step_59 hl (by decide) rfl (fun ls hl => ?_)
  refine lv_aload_n hx hb d_M_step_61 rfl (lv_at hl 4 rfl) ?_
  refine va_get (D := (dC, dI)) (ci := 3) (v := .ref (h 3)) (C := R_M) (T := T_M) (N := 11) hx hb hg in_M hown hK hP 4 rfl rfl 1 (by decide) (hg _ t_78) (fun _ h9 => h9) rfl d_M_step_62 ?_
  refine va_getN (D := (dC, dI)) (ci := 2) (v := .ref (h 11)) (C := R_P) (T := T_P) (N := 2) hx hb hg in_P hown hK hP 3 rfl rfl 0 (by decide) (va_Nw.use rfl (nF_2 hNs)) (fun _ h9 => h9) rfl d_M_step_65 ?_
  refine lv_iload_n hx hb d_M_step_68 rfl (lv_at hl 3 rfl) ?_
  refine lv_iconst (v := 3) hx hb d_M_step_69 (by decide) ?_
  refine lv_iadd hx hb d_M_step_70 ?_
  obtain ⟨c8, hF⟩ := qs_in_some hF
  refine va_iald hx hb hK hP 11 4 rfl rfl c8 d_M_step_71 ?_
  refine lv_istore (lv' := [(5, .int (u4 11 (r3 + 3).toNatClampNeg)), (4, .int (u4 11 (r3 + 2).toNatClampNeg)), (3, .int (u4 11 (r3 + 1).toNatClampNeg)), (2, .int (u4 11 r3.toNatClampNeg)), (1, .int (r3)), (0, .ref (h 4))]) hx hb d_M_step_72 hl (by decide) rfl (fun ls hl => ?_)
  refine lv_aload_n hx hb d_M_step_74 rfl (lv_at hl 5 rfl) ?_
  refine va_get (D := (dC, dI)) (ci := 3) (v := .ref (h 15)) (C := R_M) (T := T_M) (N := 11) hx hb hg in_M hown hK hP 4 rfl rfl 4 (by decide) (hg _ t_82) (fun _ h9 => h9) rfl d_M_step_75 ?_
  refine lv_aload_n hx hb d_M_step_78 rfl (lv_at hl 5 rfl) ?_
  refine va_get (D := (dC, dI)) (ci := 3) (v := .int (u4 21 0)) (C := R_M) (T := T_M) (N := 11) hx hb hg in_M hown hK hP 4 rfl rfl 5 (by decide) (hg _ t_83) (fun _ h9 => h9) rfl d_M_step_79 ?_
  refine lv_dup2_11 hx hb d_M_step_82 rfl rfl ?_
  obtain ⟨c9, hF⟩ := qs_in_some hF
  refine va_iald hx hb hK hP 15 8 rfl rfl c9 d_M_step_83 ?_
  refine lv_iconst (v := 1) hx hb d_M_step_84 (by decide) ?_
  refine lv_iadd hx hb d_M_step_85 ?_
  obtain ⟨c10, hF⟩ := qs_in_some hF
  refine va_iast hx hb hK hP hD hS 15 8 rfl rfl c10 d_M_step_86 (fun H locs hP hD hS => ?_)
  obtain ⟨u11, hu11, hF⟩ := qs_st_some hF
  have hP : va_P (dC, dI) vwCl (qs_W h c u11) H := by rw [hu11]; exact hP
  have hD : va_D A (qs_W h c u11) := by rw [hu11]; exact hD
  clear hu11
  refine lv_iload_n hx hb d_M_step_87 rfl (lv_at hl 3 rfl) ?_
  by_cases c12 : u4 11 r3.toNatClampNeg = 8
  · have hF := qs_pos c12 hF
    refine lv_tableIn (tgt := 140) hx hb d_M_step_88 (by rw [c12]; decide) (by rw [c12]; decide) (by rw [c12]; rfl) (by decide) ?_
    refine lv_aload_n hx hb d_M_step_140 rfl (lv_at hl 5 rfl) ?_
    refine va_get (D := (dC, dI)) (ci := 3) (v := .ref (h 1)) (C := R_M) (T := T_M) (N := 11) hx hb hg in_M hown hK hP 4 rfl rfl 0 (by decide) (hg _ t_77) (fun _ h9 => h9) rfl d_M_step_141 ?_
    refine lv_aload_n hx hb d_M_step_144 rfl (lv_at hl 5 rfl) ?_
    refine va_get (D := (dC, dI)) (ci := 3) (v := .ref (h 13)) (C := R_M) (T := T_M) (N := 11) hx hb hg in_M hown hK hP 4 rfl rfl 2 (by decide) (hg _ t_79) (fun _ h9 => h9) rfl d_M_step_145 ?_
    refine lv_iload_n hx hb d_M_step_148 rfl (lv_at hl 2 rfl) ?_
    obtain ⟨c13, hF⟩ := qs_in_some hF
    refine va_iald hx hb hK hP 13 6 rfl rfl c13 d_M_step_149 ?_
    obtain ⟨r14, hX, hF⟩ := qs_pb_some hF
    refine qs_psi (va_runSN (own := "QuakeServer$Machine") (As := [.int (u11 13 (u4 11 (r3 + 1).toNatClampNeg).toNatClampNeg)]) (rest := [.ref (h 1)]) ⟨hx, hb, hml, hown, hg⟩ (c_Q_wholeOf l H.size (u11 13 (u4 11 (r3 + 1).toNatClampNeg).toNatClampNeg) r14 hX) ⟨va_cnB (own := "QuakeServer$Machine") (index := 79) (host := "QuakeServer") 1 hg (qs_gc t_458) rfl rfl rfl (nM_5 hNs) (hg _ t_1) (by decide +kernel) ⟨Nat.le_of_ble_eq_true rfl, Nat.le_of_ble_eq_true rfl⟩, hg _ t_457, trivial⟩ ⟨qs_blind0, fun U hU hW => ⟨rfl, by rw [hU], hNs.warm hW⟩⟩ rfl rfl hl.1 rfl (lv_room (Nat.le_of_ble_eq_true rfl)) d_M_step_150 ⟨Nat.le_of_ble_eq_true rfl, Nat.le_of_ble_eq_true rfl⟩) hP hD hS hA (fun H locs hP hS => ?_)
    refine lv_iload hx hb d_M_step_153 (lv_at hl 1 rfl) ?_
    refine lv_aload_n hx hb d_M_step_155 rfl (lv_at hl 5 rfl) ?_
    refine va_get (D := (dC, dI)) (ci := 3) (v := .ref (h 13)) (C := R_M) (T := T_M) (N := 11) hx hb hg in_M hown hK hP 4 rfl rfl 2 (by decide) (hg _ t_79) (fun _ h9 => h9) rfl d_M_step_156 ?_
    refine lv_iload hx hb d_M_step_159 (lv_at hl 0 rfl) ?_
    obtain ⟨c15, hF⟩ := qs_in_some hF
    refine va_iald hx hb hK hP 13 6 rfl rfl c15 d_M_step_161 ?_
    obtain ⟨r16, u17, hX, hF⟩ := qs_bn_some hF
    refine qs_cv (Wd := qs_W h c) (isC := [0, 1, 2, 3, 4, 5, 6, 7, 8, 9, 10, 11, 12, 13, 14, 15, 16]) (va_runV (own := "QuakeServer$Machine") (C := "QuakeServer$Entities") (As := [.int (r14), .int (u4 11 (r3 + 2).toNatClampNeg), .int (u11 13 (u4 11 (r3 + 3).toNatClampNeg).toNatClampNeg)]) (rest := []) ⟨hx, hb, hml, hown, hg⟩ (c_E_put l dC dI h c H.size u11 (r14) (u4 11 (r3 + 2).toNatClampNeg) (u11 13 (u4 11 (r3 + 3).toNatClampNeg).toNatClampNeg)  u17 hX) (cwV 3 hg (qs_gV t_459 t_355 t_356 t_2 t_357) rfl rfl rfl (by decide +kernel) ⟨Nat.le_of_ble_eq_true rfl, Nat.le_of_ble_eq_true rfl⟩) ⟨qs_blind, va_recv hK hP (ci := 0) (q0 := 1) rfl rfl, fun U hU hW => ⟨rfl, by rw [hU], by rw [hU]; exact hP, va_K.moved hW.alike hK, hD.weaken (fun _ _ _ _ => trivial), hNs.warm hW⟩⟩ rfl rfl hl.1 rfl (lv_room (Nat.le_of_ble_eq_true rfl)) d_M_step_162 ⟨Nat.le_of_ble_eq_true rfl, Nat.le_of_ble_eq_true rfl⟩) rfl hP hD hS hA (fun H locs hP hD hS => ?_)
    refine lv_goto (tgt := 261) hx hb d_M_step_165 (by decide) ?_
    obtain ⟨h8, h9⟩ := qs_ret hF
    exact W.vret hx hb hr (fun t ht hW => ⟨⟨u17, rfl, h9, by rw [ht]; exact hP, va_K.moved hW.alike hK, hD⟩, hS.F ht⟩) hS.2.2 d_M_step_261
  have hF := qs_neg c12 hF
  by_cases c18 : u4 11 r3.toNatClampNeg = 9
  · have hF := qs_pos c18 hF
    refine lv_tableIn (tgt := 168) hx hb d_M_step_88 (by rw [c18]; decide) (by rw [c18]; decide) (by rw [c18]; rfl) (by decide) ?_
    refine lv_aload_n hx hb d_M_step_168 rfl (lv_at hl 5 rfl) ?_
    refine va_get (D := (dC, dI)) (ci := 3) (v := .ref (h 13)) (C := R_M) (T := T_M) (N := 11) hx hb hg in_M hown hK hP 4 rfl rfl 2 (by decide) (hg _ t_79) (fun _ h9 => h9) rfl d_M_step_169 ?_
    refine lv_iload_n hx hb d_M_step_172 rfl (lv_at hl 2 rfl) ?_
    obtain ⟨c19, hF⟩ := qs_in_some hF
    refine va_iald hx hb hK hP 13 6 rfl rfl c19 d_M_step_173 ?_
    refine lv_if_ne (tgt := 261) hx hb d_M_step_174 (by decide) (fun c20 => ?_) (fun c20 => ?_)
    · have hF := qs_neg c20 hF
      obtain ⟨h8, h9⟩ := qs_ret hF
      exact W.vret hx hb hr (fun t ht hW => ⟨⟨u11, rfl, h9, by rw [ht]; exact hP, va_K.moved hW.alike hK, hD⟩, hS.F ht⟩) hS.2.2 d_M_step_261
    · have hF := qs_pos c20 hF
      refine lv_aload_n hx hb d_M_step_177 rfl (lv_at hl 5 rfl) ?_
      refine va_get (D := (dC, dI)) (ci := 3) (v := .ref (h 15)) (C := R_M) (T := T_M) (N := 11) hx hb hg in_M hown hK hP 4 rfl rfl 4 (by decide) (hg _ t_82) (fun _ h9 => h9) rfl d_M_step_178 ?_
      refine lv_aload_n hx hb d_M_step_181 rfl (lv_at hl 5 rfl) ?_
      refine va_get (D := (dC, dI)) (ci := 3) (v := .int (u11 21 0)) (C := R_M) (T := T_M) (N := 11) hx hb hg in_M hown hK hP 4 rfl rfl 5 (by decide) (hg _ t_83) (fun _ h9 => h9) rfl d_M_step_182 ?_
      refine lv_iload hx hb d_M_step_185 (lv_at hl 1 rfl) ?_
      obtain ⟨c21, hF⟩ := qs_in_some hF
      refine va_iast hx hb hK hP hD hS 15 8 rfl rfl c21 d_M_step_187 (fun H locs hP hD hS => ?_)
      obtain ⟨u22, hu22, hF⟩ := qs_st_some hF
      have hP : va_P (dC, dI) vwCl (qs_W h c u22) H := by rw [hu22]; exact hP
      have hD : va_D A (qs_W h c u22) := by rw [hu22]; exact hD
      clear hu22
      refine lv_goto (tgt := 261) hx hb d_M_step_188 (by decide) ?_
      obtain ⟨h8, h9⟩ := qs_ret hF
      exact W.vret hx hb hr (fun t ht hW => ⟨⟨u22, rfl, h9, by rw [ht]; exact hP, va_K.moved hW.alike hK, hD⟩, hS.F ht⟩) hS.2.2 d_M_step_261
  have hF := qs_neg c18 hF
  by_cases c23 : u4 11 r3.toNatClampNeg = 10
  · have hF := qs_pos c23 hF
    refine lv_tableIn (tgt := 191) hx hb d_M_step_88 (by rw [c23]; decide) (by rw [c23]; decide) (by rw [c23]; rfl) (by decide) ?_
    refine lv_aload_n hx hb d_M_step_191 rfl (lv_at hl 5 rfl) ?_
    refine va_get (D := (dC, dI)) (ci := 3) (v := .ref (h 15)) (C := R_M) (T := T_M) (N := 11) hx hb hg in_M hown hK hP 4 rfl rfl 4 (by decide) (hg _ t_82) (fun _ h9 => h9) rfl d_M_step_192 ?_
    refine lv_aload_n hx hb d_M_step_195 rfl (lv_at hl 5 rfl) ?_
    refine va_get (D := (dC, dI)) (ci := 3) (v := .int (u11 21 0)) (C := R_M) (T := T_M) (N := 11) hx hb hg in_M hown hK hP 4 rfl rfl 5 (by decide) (hg _ t_83) (fun _ h9 => h9) rfl d_M_step_196 ?_
    refine lv_iload hx hb d_M_step_199 (lv_at hl 1 rfl) ?_
    obtain ⟨c24, hF⟩ := qs_in_some hF
    refine va_iast hx hb hK hP hD hS 15 8 rfl rfl c24 d_M_step_201 (fun H locs hP hD hS => ?_)
    obtain ⟨u25, hu25, hF⟩ := qs_st_some hF
    have hP : va_P (dC, dI) vwCl (qs_W h c u25) H := by rw [hu25]; exact hP
    have hD : va_D A (qs_W h c u25) := by rw [hu25]; exact hD
    clear hu25
    refine lv_goto (tgt := 261) hx hb d_M_step_202 (by decide) ?_
    obtain ⟨h8, h9⟩ := qs_ret hF
    exact W.vret hx hb hr (fun t ht hW => ⟨⟨u25, rfl, h9, by rw [ht]; exact hP, va_K.moved hW.alike hK, hD⟩, hS.F ht⟩) hS.2.2 d_M_step_261
  have hF := qs_neg c23 hF
  by_cases c26 : u4 11 r3.toNatClampNeg = 11
  · have hF := qs_pos c26 hF
    refine lv_tableIn (tgt := 205) hx hb d_M_step_88 (by rw [c26]; decide) (by rw [c26]; decide) (by rw [c26]; rfl) (by decide) ?_
    refine lv_aload_n hx hb d_M_step_205 rfl (lv_at hl 5 rfl) ?_
    refine lv_iload_n hx hb d_M_step_206 rfl (lv_at hl 2 rfl) ?_
    obtain ⟨r27, u28, hX, hF⟩ := qs_bn_some hF
    refine qs_cv (Wd := qs_W h c) (isC := [0, 1, 2, 3, 4, 5, 6, 7, 8, 9, 10, 11, 12, 13, 14, 15, 16]) (va_runV (own := "QuakeServer$Machine") (C := "QuakeServer$Machine") (As := [.int (u4 11 (r3 + 1).toNatClampNeg)]) (rest := []) ⟨hx, hb, hml, hown, hg⟩ (c_M_enter l dC dI h c H.size u11 (u4 11 (r3 + 1).toNatClampNeg)  u28 hX) (cwV 1 hg (qs_gV t_460 t_462 tp_5 t_5 t_463) rfl rfl rfl (by decide +kernel) ⟨Nat.le_of_ble_eq_true rfl, Nat.le_of_ble_eq_true rfl⟩) ⟨qs_blind, va_recv hK hP (ci := 3) (q0 := 4) rfl rfl, fun U hU hW => ⟨rfl, by rw [hU], by rw [hU]; exact hP, va_K.moved hW.alike hK, hD.weaken (fun _ _ _ _ => trivial), hNs.warm hW⟩⟩ rfl rfl hl.1 rfl (lv_room (Nat.le_of_ble_eq_true rfl)) d_M_step_207 ⟨Nat.le_of_ble_eq_true rfl, Nat.le_of_ble_eq_true rfl⟩) rfl hP hD hS hA (fun H locs hP hD hS => ?_)
    refine lv_goto (tgt := 261) hx hb d_M_step_210 (by decide) ?_
    obtain ⟨h8, h9⟩ := qs_ret hF
    exact W.vret hx hb hr (fun t ht hW => ⟨⟨u28, rfl, h9, by rw [ht]; exact hP, va_K.moved hW.alike hK, hD⟩, hS.F ht⟩) hS.2.2 d_M_step_261
  have hF := qs_neg c26 hF
  by_cases c29 : u4 11 r3.toNatClampNeg = 12
  · have hF := qs_pos c29 hF
    refine lv_tableIn (tgt := 246) hx hb d_M_step_88 (by rw [c29]; decide) (by rw [c29]; decide) (by rw [c29]; rfl) (by decide) ?_
    refine lv_aload_n hx hb d_M_step_246 rfl (lv_at hl 5 rfl) ?_
    refine va_get (D := (dC, dI)) (ci := 3) (v := .ref (h 13)) (C := R_M) (T := T_M) (N := 11) hx hb hg in_M hown hK hP 4 rfl rfl 2 (by decide) (hg _ t_79) (fun _ h9 => h9) rfl d_M_step_247 ?_
    refine lv_iload hx hb d_M_step_250 (lv_at hl 0 rfl) ?_
    refine lv_aload_n hx hb d_M_step_252 rfl (lv_at hl 5 rfl) ?_
    refine lv_iload_n hx hb d_M_step_253 rfl (lv_at hl 3 rfl) ?_
    refine lv_iload_n hx hb d_M_step_254 rfl (lv_at hl 2 rfl) ?_
    refine lv_iload hx hb d_M_step_255 (lv_at hl 1 rfl) ?_
    obtain ⟨r30, u31, hX, hF⟩ := qs_bn_some hF
    refine qs_ci (Wd := qs_W h c) (isC := [0, 1, 2, 3, 4, 5, 6, 7, 8, 9, 10, 11, 12, 13, 14, 15, 16]) (va_runV (own := "QuakeServer$Machine") (C := "QuakeServer$Machine") (As := [.int (u4 11 r3.toNatClampNeg), .int (u4 11 (r3 + 1).toNatClampNeg), .int (u4 11 (r3 + 2).toNatClampNeg)]) (rest := [.int (u4 11 (r3 + 3).toNatClampNeg), .ref (h 13)]) ⟨hx, hb, hml, hown, hg⟩ (c_M_result l dC dI h c H.size u11 (u4 11 r3.toNatClampNeg) (u4 11 (r3 + 1).toNatClampNeg) (u4 11 (r3 + 2).toNatClampNeg) r30 u31 hX) (cwV 3 hg (qs_gV t_465 t_467 tp_6 t_5 t_468) rfl rfl rfl (by decide +kernel) ⟨Nat.le_of_ble_eq_true rfl, Nat.le_of_ble_eq_true rfl⟩) ⟨qs_blind, va_recv hK hP (ci := 3) (q0 := 4) rfl rfl, fun U hU hW => ⟨rfl, by rw [hU], by rw [hU]; exact hP, va_K.moved hW.alike hK, hD.weaken (fun _ _ _ _ => trivial), hNs.warm hW⟩⟩ rfl rfl hl.1 rfl (lv_room (Nat.le_of_ble_eq_true rfl)) d_M_step_257 ⟨Nat.le_of_ble_eq_true rfl, Nat.le_of_ble_eq_true rfl⟩) rfl hP hD hS hA (fun H locs hP hD hS => ?_)
    obtain ⟨c32, hF⟩ := qs_in_some hF
    refine va_iast hx hb hK hP hD hS 13 6 rfl rfl c32 d_M_step_260 (fun H locs hP hD hS => ?_)
    obtain ⟨u33, hu33, hF⟩ := qs_st_some hF
    have hP : va_P (dC, dI) vwCl (qs_W h c u33) H := by rw [hu33]; exact hP
    have hD : va_D A (qs_W h c u33) := by rw [hu33]; exact hD
    clear hu33
    obtain ⟨h8, h9⟩ := qs_ret hF
    exact W.vret hx hb hr (fun t ht hW => ⟨⟨u33, rfl, h9, by rw [ht]; exact hP, va_K.moved hW.alike hK, hD⟩, hS.F ht⟩) hS.2.2 d_M_step_261
  have hF := qs_neg c29 hF
  by_cases c34 : u4 11 r3.toNatClampNeg = 13
  · have hF := qs_pos c34 hF
    refine lv_tableIn (tgt := 213) hx hb d_M_step_88 (by rw [c34]; decide) (by rw [c34]; decide) (by rw [c34]; rfl) (by decide) ?_
    refine lv_aload_n hx hb d_M_step_213 rfl (lv_at hl 5 rfl) ?_
    refine va_get (D := (dC, dI)) (ci := 3) (v := .ref (h 1)) (C := R_M) (T := T_M) (N := 11) hx hb hg in_M hown hK hP 4 rfl rfl 0 (by decide) (hg _ t_77) (fun _ h9 => h9) rfl d_M_step_214 ?_
    refine lv_aload_n hx hb d_M_step_217 rfl (lv_at hl 5 rfl) ?_
    refine va_get (D := (dC, dI)) (ci := 3) (v := .ref (h 13)) (C := R_M) (T := T_M) (N := 11) hx hb hg in_M hown hK hP 4 rfl rfl 2 (by decide) (hg _ t_79) (fun _ h9 => h9) rfl d_M_step_218 ?_
    refine lv_iload_n hx hb d_M_step_221 rfl (lv_at hl 2 rfl) ?_
    obtain ⟨c35, hF⟩ := qs_in_some hF
    refine va_iald hx hb hK hP 13 6 rfl rfl c35 d_M_step_222 ?_
    obtain ⟨r36, hX, hF⟩ := qs_pb_some hF
    refine qs_psi (va_runSN (own := "QuakeServer$Machine") (As := [.int (u11 13 (u4 11 (r3 + 1).toNatClampNeg).toNatClampNeg)]) (rest := [.ref (h 1)]) ⟨hx, hb, hml, hown, hg⟩ (c_Q_wholeOf l H.size (u11 13 (u4 11 (r3 + 1).toNatClampNeg).toNatClampNeg) r36 hX) ⟨va_cnB (own := "QuakeServer$Machine") (index := 79) (host := "QuakeServer") 1 hg (qs_gc t_458) rfl rfl rfl (nM_5 hNs) (hg _ t_1) (by decide +kernel) ⟨Nat.le_of_ble_eq_true rfl, Nat.le_of_ble_eq_true rfl⟩, hg _ t_457, trivial⟩ ⟨qs_blind0, fun U hU hW => ⟨rfl, by rw [hU], hNs.warm hW⟩⟩ rfl rfl hl.1 rfl (lv_room (Nat.le_of_ble_eq_true rfl)) d_M_step_223 ⟨Nat.le_of_ble_eq_true rfl, Nat.le_of_ble_eq_true rfl⟩) hP hD hS hA (fun H locs hP hS => ?_)
    obtain ⟨r37, u38, hX, hF⟩ := qs_bn_some hF
    refine qs_cv (Wd := qs_W h c) (isC := [0, 1, 2, 3, 4, 5, 6, 7, 8, 9, 10, 11, 12, 13, 14, 15, 16]) (va_runV (own := "QuakeServer$Machine") (C := "QuakeServer$Entities") (As := [.int (r36)]) (rest := []) ⟨hx, hb, hml, hown, hg⟩ (c_E_erase l dC dI h c H.size u11 (r36)  u38 hX) (cwV 1 hg (qs_gV t_464 t_385 t_386 t_2 t_387) rfl rfl rfl (by decide +kernel) ⟨Nat.le_of_ble_eq_true rfl, Nat.le_of_ble_eq_true rfl⟩) ⟨qs_blind, va_recv hK hP (ci := 0) (q0 := 1) rfl rfl, fun U hU hW => ⟨rfl, by rw [hU], by rw [hU]; exact hP, va_K.moved hW.alike hK, hD.weaken (fun _ _ _ _ => trivial), hNs.warm hW⟩⟩ rfl rfl hl.1 rfl (lv_room (Nat.le_of_ble_eq_true rfl)) d_M_step_226 ⟨Nat.le_of_ble_eq_true rfl, Nat.le_of_ble_eq_true rfl⟩) rfl hP hD hS hA (fun H locs hP hD hS => ?_)
    refine lv_goto (tgt := 261) hx hb d_M_step_229 (by decide) ?_
    obtain ⟨h8, h9⟩ := qs_ret hF
    exact W.vret hx hb hr (fun t ht hW => ⟨⟨u38, rfl, h9, by rw [ht]; exact hP, va_K.moved hW.alike hK, hD⟩, hS.F ht⟩) hS.2.2 d_M_step_261
  have hF := qs_neg c34 hF
  by_cases c39 : u4 11 r3.toNatClampNeg = 14
  · have hF := qs_pos c39 hF
    refine lv_tableIn (tgt := 246) hx hb d_M_step_88 (by rw [c39]; decide) (by rw [c39]; decide) (by rw [c39]; rfl) (by decide) ?_
    refine lv_aload_n hx hb d_M_step_246 rfl (lv_at hl 5 rfl) ?_
    refine va_get (D := (dC, dI)) (ci := 3) (v := .ref (h 13)) (C := R_M) (T := T_M) (N := 11) hx hb hg in_M hown hK hP 4 rfl rfl 2 (by decide) (hg _ t_79) (fun _ h9 => h9) rfl d_M_step_247 ?_
    refine lv_iload hx hb d_M_step_250 (lv_at hl 0 rfl) ?_
    refine lv_aload_n hx hb d_M_step_252 rfl (lv_at hl 5 rfl) ?_
    refine lv_iload_n hx hb d_M_step_253 rfl (lv_at hl 3 rfl) ?_
    refine lv_iload_n hx hb d_M_step_254 rfl (lv_at hl 2 rfl) ?_
    refine lv_iload hx hb d_M_step_255 (lv_at hl 1 rfl) ?_
    obtain ⟨r40, u41, hX, hF⟩ := qs_bn_some hF
    refine qs_ci (Wd := qs_W h c) (isC := [0, 1, 2, 3, 4, 5, 6, 7, 8, 9, 10, 11, 12, 13, 14, 15, 16]) (va_runV (own := "QuakeServer$Machine") (C := "QuakeServer$Machine") (As := [.int (u4 11 r3.toNatClampNeg), .int (u4 11 (r3 + 1).toNatClampNeg), .int (u4 11 (r3 + 2).toNatClampNeg)]) (rest := [.int (u4 11 (r3 + 3).toNatClampNeg), .ref (h 13)]) ⟨hx, hb, hml, hown, hg⟩ (c_M_result l dC dI h c H.size u11 (u4 11 r3.toNatClampNeg) (u4 11 (r3 + 1).toNatClampNeg) (u4 11 (r3 + 2).toNatClampNeg) r40 u41 hX) (cwV 3 hg (qs_gV t_465 t_467 tp_6 t_5 t_468) rfl rfl rfl (by decide +kernel) ⟨Nat.le_of_ble_eq_true rfl, Nat.le_of_ble_eq_true rfl⟩) ⟨qs_blind, va_recv hK hP (ci := 3) (q0 := 4) rfl rfl, fun U hU hW => ⟨rfl, by rw [hU], by rw [hU]; exact hP, va_K.moved hW.alike hK, hD.weaken (fun _ _ _ _ => trivial), hNs.warm hW⟩⟩ rfl rfl hl.1 rfl (lv_room (Nat.le_of_ble_eq_true rfl)) d_M_step_257 ⟨Nat.le_of_ble_eq_true rfl, Nat.le_of_ble_eq_true rfl⟩) rfl hP hD hS hA (fun H locs hP hD hS => ?_)
    obtain ⟨c42, hF⟩ := qs_in_some hF
    refine va_iast hx hb hK hP hD hS 13 6 rfl rfl c42 d_M_step_260 (fun H locs hP hD hS => ?_)
    obtain ⟨u43, hu43, hF⟩ := qs_st_some hF
    have hP : va_P (dC, dI) vwCl (qs_W h c u43) H := by rw [hu43]; exact hP
    have hD : va_D A (qs_W h c u43) := by rw [hu43]; exact hD
    clear hu43
    obtain ⟨h8, h9⟩ := qs_ret hF
    exact W.vret hx hb hr (fun t ht hW => ⟨⟨u43, rfl, h9, by rw [ht]; exact hP, va_K.moved hW.alike hK, hD⟩, hS.F ht⟩) hS.2.2 d_M_step_261
  have hF := qs_neg c39 hF
  by_cases c44 : u4 11 r3.toNatClampNeg = 15
  · have hF := qs_pos c44 hF
    refine lv_tableIn (tgt := 246) hx hb d_M_step_88 (by rw [c44]; decide) (by rw [c44]; decide) (by rw [c44]; rfl) (by decide) ?_
    refine lv_aload_n hx hb d_M_step_246 rfl (lv_at hl 5 rfl) ?_
    refine va_get (D := (dC, dI)) (ci := 3) (v := .ref (h 13)) (C := R_M) (T := T_M) (N := 11) hx hb hg in_M hown hK hP 4 rfl rfl 2 (by decide) (hg _ t_79) (fun _ h9 => h9) rfl d_M_step_247 ?_
    refine lv_iload hx hb d_M_step_250 (lv_at hl 0 rfl) ?_
    refine lv_aload_n hx hb d_M_step_252 rfl (lv_at hl 5 rfl) ?_
    refine lv_iload_n hx hb d_M_step_253 rfl (lv_at hl 3 rfl) ?_
    refine lv_iload_n hx hb d_M_step_254 rfl (lv_at hl 2 rfl) ?_
    refine lv_iload hx hb d_M_step_255 (lv_at hl 1 rfl) ?_
    obtain ⟨r45, u46, hX, hF⟩ := qs_bn_some hF
    refine qs_ci (Wd := qs_W h c) (isC := [0, 1, 2, 3, 4, 5, 6, 7, 8, 9, 10, 11, 12, 13, 14, 15, 16]) (va_runV (own := "QuakeServer$Machine") (C := "QuakeServer$Machine") (As := [.int (u4 11 r3.toNatClampNeg), .int (u4 11 (r3 + 1).toNatClampNeg), .int (u4 11 (r3 + 2).toNatClampNeg)]) (rest := [.int (u4 11 (r3 + 3).toNatClampNeg), .ref (h 13)]) ⟨hx, hb, hml, hown, hg⟩ (c_M_result l dC dI h c H.size u11 (u4 11 r3.toNatClampNeg) (u4 11 (r3 + 1).toNatClampNeg) (u4 11 (r3 + 2).toNatClampNeg) r45 u46 hX) (cwV 3 hg (qs_gV t_465 t_467 tp_6 t_5 t_468) rfl rfl rfl (by decide +kernel) ⟨Nat.le_of_ble_eq_true rfl, Nat.le_of_ble_eq_true rfl⟩) ⟨qs_blind, va_recv hK hP (ci := 3) (q0 := 4) rfl rfl, fun U hU hW => ⟨rfl, by rw [hU], by rw [hU]; exact hP, va_K.moved hW.alike hK, hD.weaken (fun _ _ _ _ => trivial), hNs.warm hW⟩⟩ rfl rfl hl.1 rfl (lv_room (Nat.le_of_ble_eq_true rfl)) d_M_step_257 ⟨Nat.le_of_ble_eq_true rfl, Nat.le_of_ble_eq_true rfl⟩) rfl hP hD hS hA (fun H locs hP hD hS => ?_)
    obtain ⟨c47, hF⟩ := qs_in_some hF
    refine va_iast hx hb hK hP hD hS 13 6 rfl rfl c47 d_M_step_260 (fun H locs hP hD hS => ?_)
    obtain ⟨u48, hu48, hF⟩ := qs_st_some hF
    have hP : va_P (dC, dI) vwCl (qs_W h c u48) H := by rw [hu48]; exact hP
    have hD : va_D A (qs_W h c u48) := by rw [hu48]; exact hD
    clear hu48
    obtain ⟨h8, h9⟩ := qs_ret hF
    exact W.vret hx hb hr (fun t ht hW => ⟨⟨u48, rfl, h9, by rw [ht]; exact hP, va_K.moved hW.alike hK, hD⟩, hS.F ht⟩) hS.2.2 d_M_step_261
  have hF := qs_neg c44 hF
  by_cases c49 : u4 11 r3.toNatClampNeg = 16
  · have hF := qs_pos c49 hF
    refine lv_tableIn (tgt := 232) hx hb d_M_step_88 (by rw [c49]; decide) (by rw [c49]; decide) (by rw [c49]; rfl) (by decide) ?_
    refine lv_aload_n hx hb d_M_step_232 rfl (lv_at hl 5 rfl) ?_
    refine va_get (D := (dC, dI)) (ci := 3) (v := .ref (h 15)) (C := R_M) (T := T_M) (N := 11) hx hb hg in_M hown hK hP 4 rfl rfl 4 (by decide) (hg _ t_82) (fun _ h9 => h9) rfl d_M_step_233 ?_
    refine lv_aload_n hx hb d_M_step_236 rfl (lv_at hl 5 rfl) ?_
    refine va_get (D := (dC, dI)) (ci := 3) (v := .int (u11 21 0)) (C := R_M) (T := T_M) (N := 11) hx hb hg in_M hown hK hP 4 rfl rfl 5 (by decide) (hg _ t_83) (fun _ h9 => h9) rfl d_M_step_237 ?_
    refine lv_bipush (v := 14) hx hb d_M_step_240 (by decide) ?_
    obtain ⟨c50, hF⟩ := qs_in_some hF
    refine va_iast hx hb hK hP hD hS 15 8 rfl rfl c50 d_M_step_242 (fun H locs hP hD hS => ?_)
    obtain ⟨u51, hu51, hF⟩ := qs_st_some hF
    have hP : va_P (dC, dI) vwCl (qs_W h c u51) H := by rw [hu51]; exact hP
    have hD : va_D A (qs_W h c u51) := by rw [hu51]; exact hD
    clear hu51
    refine lv_goto (tgt := 261) hx hb d_M_step_243 (by decide) ?_
    obtain ⟨h8, h9⟩ := qs_ret hF
    exact W.vret hx hb hr (fun t ht hW => ⟨⟨u51, rfl, h9, by rw [ht]; exact hP, va_K.moved hW.alike hK, hD⟩, hS.F ht⟩) hS.2.2 d_M_step_261
  have hF := qs_neg c49 hF
  refine lv_tableOut (tgt := 246) hx hb d_M_step_88 (by have := lv_neT (a := 8) c12 (by decide); have := lv_neT (a := 9) c18 (by decide); have := lv_neT (a := 10) c23 (by decide); have := lv_neT (a := 11) c26 (by decide); have := lv_neT (a := 12) c29 (by decide); have := lv_neT (a := 13) c34 (by decide); have := lv_neT (a := 14) c39 (by decide); have := lv_neT (a := 15) c44 (by decide); have := lv_neT (a := 16) c49 (by decide); omega) (by decide) ?_
  refine lv_aload_n hx hb d_M_step_246 rfl (lv_at hl 5 rfl) ?_
  refine va_get (D := (dC, dI)) (ci := 3) (v := .ref (h 13)) (C := R_M) (T := T_M) (N := 11) hx hb hg in_M hown hK hP 4 rfl rfl 2 (by decide) (hg _ t_79) (fun _ h9 => h9) rfl d_M_step_247 ?_
  refine lv_iload hx hb d_M_step_250 (lv_at hl 0 rfl) ?_
  refine lv_aload_n hx hb d_M_step_252 rfl (lv_at hl 5 rfl) ?_
  refine lv_iload_n hx hb d_M_step_253 rfl (lv_at hl 3 rfl) ?_
  refine lv_iload_n hx hb d_M_step_254 rfl (lv_at hl 2 rfl) ?_
  refine lv_iload hx hb d_M_step_255 (lv_at hl 1 rfl) ?_
  obtain ⟨r52, u53, hX, hF⟩ := qs_bn_some hF
  refine qs_ci (Wd := qs_W h c) (isC := [0, 1, 2, 3, 4, 5, 6, 7, 8, 9, 10, 11, 12, 13, 14, 15, 16]) (va_runV (own := "QuakeServer$Machine") (C := "QuakeServer$Machine") (As := [.int (u4 11 r3.toNatClampNeg), .int (u4 11 (r3 + 1).toNatClampNeg), .int (u4 11 (r3 + 2).toNatClampNeg)]) (rest := [.int (u4 11 (r3 + 3).toNatClampNeg), .ref (h 13)]) ⟨hx, hb, hml, hown, hg⟩ (c_M_result l dC dI h c H.size u11 (u4 11 r3.toNatClampNeg) (u4 11 (r3 + 1).toNatClampNeg) (u4 11 (r3 + 2).toNatClampNeg) r52 u53 hX) (cwV 3 hg (qs_gV t_465 t_467 tp_6 t_5 t_468) rfl rfl rfl (by decide +kernel) ⟨Nat.le_of_ble_eq_true rfl, Nat.le_of_ble_eq_true rfl⟩) ⟨qs_blind, va_recv hK hP (ci := 3) (q0 := 4) rfl rfl, fun U hU hW => ⟨rfl, by rw [hU], by rw [hU]; exact hP, va_K.moved hW.alike hK, hD.weaken (fun _ _ _ _ => trivial), hNs.warm hW⟩⟩ rfl rfl hl.1 rfl (lv_room (Nat.le_of_ble_eq_true rfl)) d_M_step_257 ⟨Nat.le_of_ble_eq_true rfl, Nat.le_of_ble_eq_true rfl⟩) rfl hP hD hS hA (fun H locs hP hD hS => ?_)
  obtain ⟨c54, hF⟩ := qs_in_some hF
  refine va_iast hx hb hK hP hD hS 13 6 rfl rfl c54 d_M_step_260 (fun H locs hP hD hS => ?_)
  obtain ⟨u55, hu55, hF⟩ := qs_st_some hF
  have hP : va_P (dC, dI) vwCl (qs_W h c u55) H := by rw [hu55]; exact hP
  have hD : va_D A (qs_W h c u55) := by rw [hu55]; exact hD
  clear hu55
  obtain ⟨h8, h9⟩ := qs_ret hF
  exact W.vret hx hb hr (fun t ht hW => ⟨⟨u55, rfl, h9, by rw [ht]; exact hP, va_K.moved hW.alike hK, hD⟩, hS.F ht⟩) hS.2.2 d_M_step_261

theorem d_M_perform_0 : decode b_M_perform 0 = .ok (.aload_n 0, 1) := by decide +kernel
theorem d_M_perform_1 : decode b_M_perform 1 = .ok (.iconst 0, 1) := by decide +kernel
theorem d_M_perform_2 : decode b_M_perform 2 = .ok (.putfield 51, 3) := by decide +kernel
theorem d_M_perform_5 : decode b_M_perform 5 = .ok (.aload_n 0, 1) := by decide +kernel
theorem d_M_perform_6 : decode b_M_perform 6 = .ok (.iconst 0, 1) := by decide +kernel
theorem d_M_perform_7 : decode b_M_perform 7 = .ok (.putfield 54, 3) := by decide +kernel
theorem d_M_perform_10 : decode b_M_perform 10 = .ok (.aload_n 0, 1) := by decide +kernel
theorem d_M_perform_11 : decode b_M_perform 11 = .ok (.getfield 15, 3) := by decide +kernel
theorem d_M_perform_14 : decode b_M_perform 14 = .ok (.iconst 0, 1) := by decide +kernel
theorem d_M_perform_15 : decode b_M_perform 15 = .ok (.iload_n 1, 1) := by decide +kernel
theorem d_M_perform_16 : decode b_M_perform 16 = .ok (.iastore, 1) := by decide +kernel
theorem d_M_perform_17 : decode b_M_perform 17 = .ok (.aload_n 0, 1) := by decide +kernel
theorem d_M_perform_18 : decode b_M_perform 18 = .ok (.getfield 18, 3) := by decide +kernel
theorem d_M_perform_21 : decode b_M_perform 21 = .ok (.iconst 0, 1) := by decide +kernel
theorem d_M_perform_22 : decode b_M_perform 22 = .ok (.iconst 0, 1) := by decide +kernel
theorem d_M_perform_23 : decode b_M_perform 23 = .ok (.iastore, 1) := by decide +kernel
theorem d_M_perform_24 : decode b_M_perform 24 = .ok (.aload_n 0, 1) := by decide +kernel
theorem d_M_perform_25 : decode b_M_perform 25 = .ok (.invokevirtual 58, 3) := by decide +kernel
theorem d_M_perform_28 : decode b_M_perform 28 = .ok (.iconst 0, 1) := by decide +kernel
theorem d_M_perform_29 : decode b_M_perform 29 = .ok (.istore_n 2, 1) := by decide +kernel
theorem d_M_perform_30 : decode b_M_perform 30 = .ok (.iload_n 2, 1) := by decide +kernel
theorem d_M_perform_31 : decode b_M_perform 31 = .ok (.bipush 60, 2) := by decide +kernel
theorem d_M_perform_33 : decode b_M_perform 33 = .ok (.if_icmp .ge 31, 3) := by decide +kernel
theorem d_M_perform_36 : decode b_M_perform 36 = .ok (.aload_n 0, 1) := by decide +kernel
theorem d_M_perform_37 : decode b_M_perform 37 = .ok (.getfield 51, 3) := by decide +kernel
theorem d_M_perform_40 : decode b_M_perform 40 = .ok (.ifCond .lt 24, 3) := by decide +kernel
theorem d_M_perform_43 : decode b_M_perform 43 = .ok (.aload_n 0, 1) := by decide +kernel
theorem d_M_perform_44 : decode b_M_perform 44 = .ok (.getfield 54, 3) := by decide +kernel
theorem d_M_perform_47 : decode b_M_perform 47 = .ok (.ifCond .ne 17, 3) := by decide +kernel
theorem d_M_perform_50 : decode b_M_perform 50 = .ok (.aload_n 0, 1) := by decide +kernel
theorem d_M_perform_51 : decode b_M_perform 51 = .ok (.invokevirtual 61, 3) := by decide +kernel
theorem d_M_perform_54 : decode b_M_perform 54 = .ok (.iinc 2 1, 3) := by decide +kernel
theorem d_M_perform_57 : decode b_M_perform 57 = .ok (.aload_n 0, 1) := by decide +kernel
theorem d_M_perform_58 : decode b_M_perform 58 = .ok (.invokevirtual 58, 3) := by decide +kernel
theorem d_M_perform_61 : decode b_M_perform 61 = .ok (.goto (-31), 3) := by decide +kernel
theorem d_M_perform_64 : decode b_M_perform 64 = .ok (.aload_n 0, 1) := by decide +kernel
theorem d_M_perform_65 : decode b_M_perform 65 = .ok (.getfield 51, 3) := by decide +kernel
theorem d_M_perform_68 : decode b_M_perform 68 = .ok (.ifCond .ge 10, 3) := by decide +kernel
theorem d_M_perform_71 : decode b_M_perform 71 = .ok (.aload_n 0, 1) := by decide +kernel
theorem d_M_perform_72 : decode b_M_perform 72 = .ok (.getfield 54, 3) := by decide +kernel
theorem d_M_perform_75 : decode b_M_perform 75 = .ok (.ifCond .eq 13, 3) := by decide +kernel
theorem d_M_perform_78 : decode b_M_perform 78 = .ok (.aload_n 0, 1) := by decide +kernel
theorem d_M_perform_79 : decode b_M_perform 79 = .ok (.dup, 1) := by decide +kernel
theorem d_M_perform_80 : decode b_M_perform 80 = .ok (.getfield 64, 3) := by decide +kernel
theorem d_M_perform_83 : decode b_M_perform 83 = .ok (.iconst 1, 1) := by decide +kernel
theorem d_M_perform_84 : decode b_M_perform 84 = .ok (.iadd, 1) := by decide +kernel
theorem d_M_perform_85 : decode b_M_perform 85 = .ok (.putfield 64, 3) := by decide +kernel
theorem d_M_perform_88 : decode b_M_perform 88 = .ok (.iload_n 2, 1) := by decide +kernel
theorem d_M_perform_89 : decode b_M_perform 89 = .ok (.ireturn, 1) := by decide +kernel
def f_M_perform_78  (g : Sg) (x2 : Int32) : Option (Int32 × Sg) := (qs_st (qs_i g 25 ((g 25 0) + 1)) fun u18 => (some (x2, u18)))
def f_M_perform_64  (g : Sg) (x2 : Int32) : Option (Int32 × Sg) := (if 0 ≤ (g 21 0) then (f_M_perform_78 g (x2)) else (if (g 22 0) = 0 then (some (x2, g)) else (f_M_perform_78 g (x2))))
def f_M_perform_30  : Nat → Sg → Int32 → Option (Int32 × Sg)
  | 0, _, _ => none
  | n + 1, g, x2 => (if 60 ≤ x2 then (f_M_perform_64 g (x2)) else (if (g 21 0) < 0 then (f_M_perform_64 g (x2)) else (if (g 22 0) = 0 then (qs_bn (f_M_step g ) fun _ u13 => (qs_bn (f_M_leaveEndedFunctions u13 ) fun _ u15 => (f_M_perform_30 n u15 (x2 + 1)))) else (f_M_perform_64 g (x2)))))
def f_M_perform (g : Sg) (a1 : Int32) : Option (Int32 × Sg) := (qs_st (qs_i g 21 (0)) fun u1 => (qs_st (qs_i u1 22 (0)) fun u2 => (qs_in (0) 6 (qs_st (qs_a u2 14 (0 : Int32).toNatClampNeg (a1)) fun u4 => (qs_in (0) 6 (qs_st (qs_a u4 15 (0 : Int32).toNatClampNeg (0)) fun u6 => (qs_bn (f_M_leaveEndedFunctions u6 ) fun _ u8 => (f_M_perform_30 200 u8 (0)))))))))
set_option maxHeartbeats 4000000 in
set_option maxRecDepth 100000 in
theorem c_M_perform (l : Launch) (dC : Nat → ClassId) (dI : Nat → Nat → Nat) (h : Nat → Nat) (c : Nat → ClassId) (sz : Nat) (g : Sg) (a1 : Int32) (r0 : Int32) (u0 : Sg) (hF : f_M_perform g a1 = some (r0, u0)) : Met l y_M_perform (qs_ws y_M_perform b_M_perform 3 (some .int)) ({ frames := 3, cells := 0, slots := 0, locals := 73 } : Room) (va_Pc ([.ref (h 4), .int a1] : List Value) (fun U => U.heap.size = sz ∧ va_P (dC, dI) vwCl (qs_W h c g) U.heap ∧ va_K (dC, dI) vwCl (qs_T c) U ∧ va_D (fun _ => True) (qs_W h c g) ∧ qs_N U)) (va_Qi (fun (r : Int32) (u : Sg) => r = r0 ∧ u = u0) (qs_at dC dI h c (va_A (qs_W h c g) sz)) (va_A (qs_W h c g) sz)) 0 0 (va_A (qs_W h c g) sz) := by
  refine Met.ofW (cc := b_M_perform) (maxL := 3) (ret := (some .int)) (by decide +kernel) rfl ?_
  intro p e s m args below meth cd s₁ B hml hv
  obtain ⟨rfl, hsz, hP, hK, hD0, hNs⟩ := hv
  have hx := B.exec
  have hb := B.bytes
  have hr := B.returns
  have hts := atoms_spec (ws := (qs_ws y_M_perform b_M_perform 3 (some .int))) B.pre
  have hg : ∀ w ∈ qs_gt, w.before _ s = true := fun w h => hts w (List.mem_cons_of_mem _ h)
  have hown : s.vm.findClass R_M = some m.cls := findClass_of_methodNamed B.named
  have hlocks := B.notSynchronized
  subst hsz
  have hD := hD0.self (sz := s.heap.size)
  generalize hAe : va_A (qs_W h c g) s.heap.size = A at hD ⊢
  have hA : ∀ q : Nat, s.heap.size ≤ q → A q := fun q h => by rw [← hAe]; exact Or.inr h
  have hS : va_S A s.heap s.heap [] := va_S.rf
  have kb_78 : ∀ (g : Sg) (x2 : Int32) (H : Heap) (locs : List Loc) (ls : Array Slot), va_P (dC, dI) vwCl (qs_W h c g) H → va_D A (qs_W h c g) → va_S A s.heap H locs → lv_has ls 3 [(0, .ref (h 4)), (2, .int (x2))] → f_M_perform_78  g x2 = some (r0, u0) → W p l e (headSpec (qs_ws y_M_perform b_M_perform 3 (some .int)) ({ frames := 3, cells := 0, slots := 0, locals := 73 } : Room)).room s m ([.ref (h 4), .int a1] : List Value).toArray below meth cd H locs 0 0 (MQ below (va_Qi (fun (r : Int32) (u : Sg) => r = r0 ∧ u = u0) (qs_at dC dI h c A) A) ([.ref (h 4), .int a1] : List Value).toArray s 0 0 A) (F0 m 78 ls []) := by
    intro g x2 H locs ls hP hD hS hl hF
    unfold f_M_perform_78 at hF
    refine lv_aload_n hx hb d_M_perform_78 rfl (lv_at hl 0 rfl) ?_
    refine lv_dup hx hb d_M_perform_79 rfl ?_
    refine va_get (D := (dC, dI)) (ci := 3) (v := .int (g 25 0)) (C := R_M) (T := T_M) (N := 11) hx hb hg in_M hown hK hP 4 rfl rfl 9 (by decide) (hg _ t_90) (fun _ h9 => h9) rfl d_M_perform_80 ?_
    refine lv_iconst (v := 1) hx hb d_M_perform_83 (by decide) ?_
    refine lv_iadd hx hb d_M_perform_84 ?_
    refine va_put (D := (dC, dI)) (ci := 3) (v := .int ((g 25 0) + 1)) (ty := .int) (C := R_M) (T := T_M) (N := 11) hx hb hg in_M ty_M ty_M_ok nm_M hown hK hP hD hS 4 rfl rfl 9 (by decide) (hg _ t_90) (fun _ h9 => h9) rfl (by decide +kernel) rfl rfl (Nat.le_of_ble_eq_true rfl) d_M_perform_85 (fun H locs hP hD hS => ?_)
    obtain ⟨u18, hu18, hF⟩ := qs_st_some hF
    have hP : va_P (dC, dI) vwCl (qs_W h c u18) H := by rw [hu18]; exact hP
    have hD : va_D A (qs_W h c u18) := by rw [hu18]; exact hD
    clear hu18
    refine lv_iload_n hx hb d_M_perform_88 rfl (lv_at hl 1 rfl) ?_
    obtain ⟨h8, h9⟩ := qs_ret hF
    exact W.iret (v := x2) hx hb hr (fun t ht hW => ⟨⟨x2, u18, rfl, ⟨h8, h9⟩, by rw [ht]; exact hP, va_K.moved hW.alike hK, hD⟩, hS.F ht⟩) hS.2.2 d_M_perform_89
  have kb_64 : ∀ (g : Sg) (x2 : Int32) (H : Heap) (locs : List Loc) (ls : Array Slot), va_P (dC, dI) vwCl (qs_W h c g) H → va_D A (qs_W h c g) → va_S A s.heap H locs → lv_has ls 3 [(0, .ref (h 4)), (2, .int (x2))] → f_M_perform_64  g x2 = some (r0, u0) → W p l e (headSpec (qs_ws y_M_perform b_M_perform 3 (some .int)) ({ frames := 3, cells := 0, slots := 0, locals := 73 } : Room)).room s m ([.ref (h 4), .int a1] : List Value).toArray below meth cd H locs 0 0 (MQ below (va_Qi (fun (r : Int32) (u : Sg) => r = r0 ∧ u = u0) (qs_at dC dI h c A) A) ([.ref (h 4), .int a1] : List Value).toArray s 0 0 A) (F0 m 64 ls []) := by
    intro g x2 H locs ls hP hD hS hl hF
    unfold f_M_perform_64 at hF
    refine lv_aload_n hx hb d_M_perform_64 rfl (lv_at hl 0 rfl) ?_
    refine va_get (D := (dC, dI)) (ci := 3) (v := .int (g 21 0)) (C := R_M) (T := T_M) (N := 11) hx hb hg in_M hown hK hP 4 rfl rfl 5 (by decide) (hg _ t_83) (fun _ h9 => h9) rfl d_M_perform_65 ?_
    refine lv_if_ge (tgt := 78) hx hb d_M_perform_68 (by decide) (fun c16 => ?_) (fun c16 => ?_)
    · have hF := qs_pos c16 hF
      exact kb_78 g (x2) H locs ls hP hD hS (lv_sub hl [0, 1] rfl) hF
    · have hF := qs_neg c16 hF
      refine lv_aload_n hx hb d_M_perform_71 rfl (lv_at hl 0 rfl) ?_
      refine va_get (D := (dC, dI)) (ci := 3) (v := .int (g 22 0)) (C := R_M) (T := T_M) (N := 11) hx hb hg in_M hown hK hP 4 rfl rfl 6 (by decide) (hg _ t_84) (fun _ h9 => h9) rfl d_M_perform_72 ?_
      refine lv_if_eq (tgt := 88) hx hb d_M_perform_75 (by decide) (fun c17 => ?_) (fun c17 => ?_)
      · have hF := qs_pos c17 hF
        refine lv_iload_n hx hb d_M_perform_88 rfl (lv_at hl 1 rfl) ?_
        obtain ⟨h8, h9⟩ := qs_ret hF
        exact W.iret (v := x2) hx hb hr (fun t ht hW => ⟨⟨x2, g, rfl, ⟨h8, h9⟩, by rw [ht]; exact hP, va_K.moved hW.alike hK, hD⟩, hS.F ht⟩) hS.2.2 d_M_perform_89
      · have hF := qs_neg c17 hF
        exact kb_78 g (x2) H locs ls hP hD hS (lv_sub hl [0, 1] rfl) hF
  have kb_30 : ∀ n : Nat, ∀ (g : Sg) (x2 : Int32) (H : Heap) (locs : List Loc) (ls : Array Slot), va_P (dC, dI) vwCl (qs_W h c g) H → va_D A (qs_W h c g) → va_S A s.heap H locs → lv_has ls 3 [(0, .ref (h 4)), (2, .int (x2))] → f_M_perform_30 n g x2 = some (r0, u0) → W p l e (headSpec (qs_ws y_M_perform b_M_perform 3 (some .int)) ({ frames := 3, cells := 0, slots := 0, locals := 73 } : Room)).room s m ([.ref (h 4), .int a1] : List Value).toArray below meth cd H locs 0 0 (MQ below (va_Qi (fun (r : Int32) (u : Sg) => r = r0 ∧ u = u0) (qs_at dC dI h c A) A) ([.ref (h 4), .int a1] : List Value).toArray s 0 0 A) (F0 m 30 ls []) := by
    intro n
    induction n with
    | zero =>
      intro g x2 H locs ls hP hD hS hl hF
      exact nomatch (show (none : Option (Int32 × Sg)) = some _ from hF)
    | succ n ih =>
      intro g x2 H locs ls hP hD hS hl hF
      rw [f_M_perform_30] at hF
      refine lv_iload_n hx hb d_M_perform_30 rfl (lv_at hl 1 rfl) ?_
      refine lv_bipush (v := 60) hx hb d_M_perform_31 (by decide) ?_
      refine lv_icmp_ge (tgt := 64) hx hb d_M_perform_33 (by decide) (fun c9 => ?_) (fun c9 => ?_)
      · have hF := qs_pos c9 hF
        exact kb_64 g (x2) H locs ls hP hD hS (lv_sub hl [0, 1] rfl) hF
      · have hF := qs_neg c9 hF
        refine lv_aload_n hx hb d_M_perform_36 rfl (lv_at hl 0 rfl) ?_
        refine va_get (D := (dC, dI)) (ci := 3) (v := .int (g 21 0)) (C := R_M) (T := T_M) (N := 11) hx hb hg in_M hown hK hP 4 rfl rfl 5 (by decide) (hg _ t_83) (fun _ h9 => h9) rfl d_M_perform_37 ?_
        refine lv_if_lt (tgt := 64) hx hb d_M_perform_40 (by decide) (fun c10 => ?_) (fun c10 => ?_)
        · have hF := qs_pos c10 hF
          exact kb_64 g (x2) H locs ls hP hD hS (lv_sub hl [0, 1] rfl) hF
        · have hF := qs_neg c10 hF
          refine lv_aload_n hx hb d_M_perform_43 rfl (lv_at hl 0 rfl) ?_
          refine va_get (D := (dC, dI)) (ci := 3) (v := .int (g 22 0)) (C := R_M) (T := T_M) (N := 11) hx hb hg in_M hown hK hP 4 rfl rfl 6 (by decide) (hg _ t_84) (fun _ h9 => h9) rfl d_M_perform_44 ?_
          refine lv_if_ne (tgt := 64) hx hb d_M_perform_47 (by decide) (fun c11 => ?_) (fun c11 => ?_)
          · have hF := qs_neg c11 hF
            exact kb_64 g (x2) H locs ls hP hD hS (lv_sub hl [0, 1] rfl) hF
          · have hF := qs_pos c11 hF
            refine lv_aload_n hx hb d_M_perform_50 rfl (lv_at hl 0 rfl) ?_
            obtain ⟨r12, u13, hX, hF⟩ := qs_bn_some hF
            refine qs_cv (Wd := qs_W h c) (isC := [0, 1, 2, 3, 4, 5, 6, 7, 8, 9, 10, 11, 12, 13, 14, 15, 16]) (va_runV (own := "QuakeServer$Machine") (C := "QuakeServer$Machine") (As := []) (rest := []) ⟨hx, hb, hml, hown, hg⟩ (c_M_step l dC dI h c H.size g   u13 hX) (cwV 0 hg (qs_gV t_451 t_453 tp_4 t_5 t_454) rfl rfl rfl (by decide +kernel) ⟨Nat.le_of_ble_eq_true rfl, Nat.le_of_ble_eq_true rfl⟩) ⟨qs_blind, va_recv hK hP (ci := 3) (q0 := 4) rfl rfl, fun U hU hW => ⟨rfl, by rw [hU], by rw [hU]; exact hP, va_K.moved hW.alike hK, hD.weaken (fun _ _ _ _ => trivial), hNs.warm hW⟩⟩ rfl rfl hl.1 rfl (lv_room (Nat.le_of_ble_eq_true rfl)) d_M_perform_51 ⟨Nat.le_of_ble_eq_true rfl, Nat.le_of_ble_eq_true rfl⟩) rfl hP hD hS hA (fun H locs hP hD hS => ?_)
            refine lv_iinc (v := x2 + 1) (lv' := [(2, .int (x2 + 1)), (0, .ref (h 4))]) hx hb d_M_perform_54 hl (k := 1) rfl (by rfl) (by decide) rfl (fun ls hl => ?_)
            refine lv_aload_n hx hb d_M_perform_57 rfl (lv_at hl 1 rfl) ?_
            obtain ⟨r14, u15, hX, hF⟩ := qs_bn_some hF
            refine qs_cv (Wd := qs_W h c) (isC := [0, 1, 2, 3, 4, 5, 6, 7, 8, 9, 10, 11, 12, 13, 14, 15, 16]) (va_runV (own := "QuakeServer$Machine") (C := "QuakeServer$Machine") (As := []) (rest := []) ⟨hx, hb, hml, hown, hg⟩ (c_M_leaveEndedFunctions l dC dI h c H.size u13   u15 hX) (cwV 0 hg (qs_gV t_446 t_448 tp_3 t_5 t_449) rfl rfl rfl (by decide +kernel) ⟨Nat.le_of_ble_eq_true rfl, Nat.le_of_ble_eq_true rfl⟩) ⟨qs_blind, va_recv hK hP (ci := 3) (q0 := 4) rfl rfl, fun U hU hW => ⟨rfl, by rw [hU], by rw [hU]; exact hP, va_K.moved hW.alike hK, hD.weaken (fun _ _ _ _ => trivial), hNs.warm hW⟩⟩ rfl rfl hl.1 rfl (lv_room (Nat.le_of_ble_eq_true rfl)) d_M_perform_58 ⟨Nat.le_of_ble_eq_true rfl, Nat.le_of_ble_eq_true rfl⟩) rfl hP hD hS hA (fun H locs hP hD hS => ?_)
            refine lv_goto (tgt := 30) hx hb d_M_perform_61 (by decide) ?_
            exact ih u15 (x2 + 1) H locs ls hP hD hS (lv_sub hl [1, 0] rfl) hF
  have hl := lv_entry ([.ref (h 4), .int a1] : List Value) (n := 3) (Nat.le_of_ble_eq_true rfl)
  rw [lg_entry_eq]
  generalize (lg_sl ([.ref (h 4), .int a1] : List Value) ++ List.replicate (3 - (lg_sl ([.ref (h 4), .int a1] : List Value)).length) Slot.unset).toArray = ls at hl ⊢
  have hl : lv_has ls 3 [(0, .ref (h 4)), (1, .int (a1))] := hl
  unfold f_M_perform at hF
  obtain ⟨H, hHe⟩ : ∃ H, H = s.heap := ⟨_, rfl⟩
  obtain ⟨locs, hLe⟩ : ∃ L : List Loc, L = [] := ⟨_, rfl⟩
  rw [← hHe] at hP ⊢
  rw [← hLe]
  have hS : va_S A s.heap H locs := by rw [hHe, hLe]; exact hS
  refine lv_aload_n hx hb d_M_perform_0 rfl (lv_at hl 0 rfl) ?_
  refine lv_iconst (v := 0) hx hb d_M_perform_1 (by decide) ?_
  refine va_put (D := (dC, dI)) (ci := 3) (v := .int (0)) (ty := .int) (C := R_M) (T := T_M) (N := 11) hx hb hg in_M ty_M ty_M_ok nm_M hown hK hP hD hS 4 rfl rfl 5 (by decide) (hg _ t_83) (fun _ h9 => h9) rfl (by decide +kernel) rfl rfl (Nat.le_of_ble_eq_true rfl) d_M_perform_2 (fun H locs hP hD hS => ?_)
  obtain ⟨u1, hu1, hF⟩ := qs_st_some hF
  have hP : va_P (dC, dI) vwCl (qs_W h c u1) H := by rw [hu1]; exact hP
  have hD : va_D A (qs_W h c u1) := by rw [hu1]; exact hD
  clear hu1
  refine lv_aload_n hx hb d_M_perform_5 rfl (lv_at hl 0 rfl) ?_
  refine lv_iconst (v := 0) hx hb d_M_perform_6 (by decide) ?_
  refine va_put (D := (dC, dI)) (ci := 3) (v := .int (0)) (ty := .boolean) (C := R_M) (T := T_M) (N := 11) hx hb hg in_M ty_M ty_M_ok nm_M hown hK hP hD hS 4 rfl rfl 6 (by decide) (hg _ t_84) (fun _ h9 => h9) rfl (by decide +kernel) rfl rfl (Nat.le_of_ble_eq_true rfl) d_M_perform_7 (fun H locs hP hD hS => ?_)
  obtain ⟨u2, hu2, hF⟩ := qs_st_some hF
  have hP : va_P (dC, dI) vwCl (qs_W h c u2) H := by rw [hu2]; exact hP
  have hD : va_D A (qs_W h c u2) := by rw [hu2]; exact hD
  clear hu2
  refine lv_aload_n hx hb d_M_perform_10 rfl (lv_at hl 0 rfl) ?_
  refine va_get (D := (dC, dI)) (ci := 3) (v := .ref (h 14)) (C := R_M) (T := T_M) (N := 11) hx hb hg in_M hown hK hP 4 rfl rfl 3 (by decide) (hg _ t_81) (fun _ h9 => h9) rfl d_M_perform_11 ?_
  refine lv_iconst (v := 0) hx hb d_M_perform_14 (by decide) ?_
  refine lv_iload_n hx hb d_M_perform_15 rfl (lv_at hl 1 rfl) ?_
  obtain ⟨c3, hF⟩ := qs_in_some hF
  refine va_iast hx hb hK hP hD hS 14 7 rfl rfl c3 d_M_perform_16 (fun H locs hP hD hS => ?_)
  obtain ⟨u4, hu4, hF⟩ := qs_st_some hF
  have hP : va_P (dC, dI) vwCl (qs_W h c u4) H := by rw [hu4]; exact hP
  have hD : va_D A (qs_W h c u4) := by rw [hu4]; exact hD
  clear hu4
  refine lv_aload_n hx hb d_M_perform_17 rfl (lv_at hl 0 rfl) ?_
  refine va_get (D := (dC, dI)) (ci := 3) (v := .ref (h 15)) (C := R_M) (T := T_M) (N := 11) hx hb hg in_M hown hK hP 4 rfl rfl 4 (by decide) (hg _ t_82) (fun _ h9 => h9) rfl d_M_perform_18 ?_
  refine lv_iconst (v := 0) hx hb d_M_perform_21 (by decide) ?_
  refine lv_iconst (v := 0) hx hb d_M_perform_22 (by decide) ?_
  obtain ⟨c5, hF⟩ := qs_in_some hF
  refine va_iast hx hb hK hP hD hS 15 8 rfl rfl c5 d_M_perform_23 (fun H locs hP hD hS => ?_)
  obtain ⟨u6, hu6, hF⟩ := qs_st_some hF
  have hP : va_P (dC, dI) vwCl (qs_W h c u6) H := by rw [hu6]; exact hP
  have hD : va_D A (qs_W h c u6) := by rw [hu6]; exact hD
  clear hu6
  refine lv_aload_n hx hb d_M_perform_24 rfl (lv_at hl 0 rfl) ?_
  obtain ⟨r7, u8, hX, hF⟩ := qs_bn_some hF
  refine qs_cv (Wd := qs_W h c) (isC := [0, 1, 2, 3, 4, 5, 6, 7, 8, 9, 10, 11, 12, 13, 14, 15, 16]) (va_runV (own := "QuakeServer$Machine") (C := "QuakeServer$Machine") (As := []) (rest := []) ⟨hx, hb, hml, hown, hg⟩ (c_M_leaveEndedFunctions l dC dI h c H.size u6   u8 hX) (cwV 0 hg (qs_gV t_446 t_448 tp_3 t_5 t_449) rfl rfl rfl (by decide +kernel) ⟨Nat.le_of_ble_eq_true rfl, Nat.le_of_ble_eq_true rfl⟩) ⟨qs_blind, va_recv hK hP (ci := 3) (q0 := 4) rfl rfl, fun U hU hW => ⟨rfl, by rw [hU], by rw [hU]; exact hP, va_K.moved hW.alike hK, hD.weaken (fun _ _ _ _ => trivial), hNs.warm hW⟩⟩ rfl rfl hl.1 rfl (lv_room (Nat.le_of_ble_eq_true rfl)) d_M_perform_25 ⟨Nat.le_of_ble_eq_true rfl, Nat.le_of_ble_eq_true rfl⟩) rfl hP hD hS hA (fun H locs hP hD hS => ?_)
  refine lv_iconst (v := 0) hx hb d_M_perform_28 (by decide) ?_
  refine lv_istore_n (lv' := [(2, .int (0)), (0, .ref (h 4)), (1, .int (a1))]) hx hb d_M_perform_29 rfl hl (by decide) rfl (fun ls hl => ?_)
  exact kb_30 200 u8 (0) H locs ls hP hD hS (lv_sub hl [1, 0] rfl) hF

theorem d_M_start_0 : decode b_M_start 0 = .ok (.iload_n 1, 1) := by decide +kernel
theorem d_M_start_1 : decode b_M_start 1 = .ok (.bipush 6, 2) := by decide +kernel
theorem d_M_start_3 : decode b_M_start 3 = .ok (.invokestatic 40, 3) := by decide +kernel
theorem d_M_start_6 : decode b_M_start 6 = .ok (.ifCond .ne 5, 3) := by decide +kernel
theorem d_M_start_9 : decode b_M_start 9 = .ok (.iconst 0, 1) := by decide +kernel
theorem d_M_start_10 : decode b_M_start 10 = .ok (.ireturn, 1) := by decide +kernel
theorem d_M_start_11 : decode b_M_start 11 = .ok (.aload_n 0, 1) := by decide +kernel
theorem d_M_start_12 : decode b_M_start 12 = .ok (.getfield 9, 3) := by decide +kernel
theorem d_M_start_15 : decode b_M_start 15 = .ok (.bipush 20, 2) := by decide +kernel
theorem d_M_start_17 : decode b_M_start 17 = .ok (.iaload, 1) := by decide +kernel
theorem d_M_start_18 : decode b_M_start 18 = .ok (.istore 4, 2) := by decide +kernel
theorem d_M_start_20 : decode b_M_start 20 = .ok (.aload_n 0, 1) := by decide +kernel
theorem d_M_start_21 : decode b_M_start 21 = .ok (.getfield 9, 3) := by decide +kernel
theorem d_M_start_24 : decode b_M_start 24 = .ok (.bipush 21, 2) := by decide +kernel
theorem d_M_start_26 : decode b_M_start 26 = .ok (.iaload, 1) := by decide +kernel
theorem d_M_start_27 : decode b_M_start 27 = .ok (.istore 5, 2) := by decide +kernel
theorem d_M_start_29 : decode b_M_start 29 = .ok (.aload_n 0, 1) := by decide +kernel
theorem d_M_start_30 : decode b_M_start 30 = .ok (.getfield 9, 3) := by decide +kernel
theorem d_M_start_33 : decode b_M_start 33 = .ok (.bipush 20, 2) := by decide +kernel
theorem d_M_start_35 : decode b_M_start 35 = .ok (.iload_n 2, 1) := by decide +kernel
theorem d_M_start_36 : decode b_M_start 36 = .ok (.bipush 8, 2) := by decide +kernel
theorem d_M_start_38 : decode b_M_start 38 = .ok (.imul, 1) := by decide +kernel
theorem d_M_start_39 : decode b_M_start 39 = .ok (.iastore, 1) := by decide +kernel
theorem d_M_start_40 : decode b_M_start 40 = .ok (.aload_n 0, 1) := by decide +kernel
theorem d_M_start_41 : decode b_M_start 41 = .ok (.getfield 9, 3) := by decide +kernel
theorem d_M_start_44 : decode b_M_start 44 = .ok (.bipush 21, 2) := by decide +kernel
theorem d_M_start_46 : decode b_M_start 46 = .ok (.iload_n 3, 1) := by decide +kernel
theorem d_M_start_47 : decode b_M_start 47 = .ok (.bipush 8, 2) := by decide +kernel
theorem d_M_start_49 : decode b_M_start 49 = .ok (.imul, 1) := by decide +kernel
theorem d_M_start_50 : decode b_M_start 50 = .ok (.iastore, 1) := by decide +kernel
theorem d_M_start_51 : decode b_M_start 51 = .ok (.aload_n 0, 1) := by decide +kernel
theorem d_M_start_52 : decode b_M_start 52 = .ok (.getfield 9, 3) := by decide +kernel
theorem d_M_start_55 : decode b_M_start 55 = .ok (.bipush 22, 2) := by decide +kernel
theorem d_M_start_57 : decode b_M_start 57 = .ok (.aload_n 0, 1) := by decide +kernel
theorem d_M_start_58 : decode b_M_start 58 = .ok (.getfield 33, 3) := by decide +kernel
theorem d_M_start_61 : decode b_M_start 61 = .ok (.iastore, 1) := by decide +kernel
theorem d_M_start_62 : decode b_M_start 62 = .ok (.aload_n 0, 1) := by decide +kernel
theorem d_M_start_63 : decode b_M_start 63 = .ok (.iload_n 1, 1) := by decide +kernel
theorem d_M_start_64 : decode b_M_start 64 = .ok (.invokevirtual 44, 3) := by decide +kernel
theorem d_M_start_67 : decode b_M_start 67 = .ok (.istore 6, 2) := by decide +kernel
theorem d_M_start_69 : decode b_M_start 69 = .ok (.aload_n 0, 1) := by decide +kernel
theorem d_M_start_70 : decode b_M_start 70 = .ok (.getfield 9, 3) := by decide +kernel
theorem d_M_start_73 : decode b_M_start 73 = .ok (.bipush 20, 2) := by decide +kernel
theorem d_M_start_75 : decode b_M_start 75 = .ok (.iload 4, 2) := by decide +kernel
theorem d_M_start_77 : decode b_M_start 77 = .ok (.iastore, 1) := by decide +kernel
theorem d_M_start_78 : decode b_M_start 78 = .ok (.aload_n 0, 1) := by decide +kernel
theorem d_M_start_79 : decode b_M_start 79 = .ok (.getfield 9, 3) := by decide +kernel
theorem d_M_start_82 : decode b_M_start 82 = .ok (.bipush 21, 2) := by decide +kernel
theorem d_M_start_84 : decode b_M_start 84 = .ok (.iload 5, 2) := by decide +kernel
theorem d_M_start_86 : decode b_M_start 86 = .ok (.iastore, 1) := by decide +kernel
theorem d_M_start_87 : decode b_M_start 87 = .ok (.iload 6, 2) := by decide +kernel
theorem d_M_start_89 : decode b_M_start 89 = .ok (.ifCond .le 13, 3) := by decide +kernel
theorem d_M_start_92 : decode b_M_start 92 = .ok (.aload_n 0, 1) := by decide +kernel
theorem d_M_start_93 : decode b_M_start 93 = .ok (.dup, 1) := by decide +kernel
theorem d_M_start_94 : decode b_M_start 94 = .ok (.getfield 48, 3) := by decide +kernel
theorem d_M_start_97 : decode b_M_start 97 = .ok (.iconst 1, 1) := by decide +kernel
theorem d_M_start_98 : decode b_M_start 98 = .ok (.iadd, 1) := by decide +kernel
theorem d_M_start_99 : decode b_M_start 99 = .ok (.putfield 48, 3) := by decide +kernel
theorem d_M_start_102 : decode b_M_start 102 = .ok (.iload 6, 2) := by decide +kernel
theorem d_M_start_104 : decode b_M_start 104 = .ok (.ireturn, 1) := by decide +kernel
def f_M_start (g : Sg) (a1 : Int32) (a2 : Int32) (a3 : Int32) : Option (Int32 × Sg) := (qs_pb (f_Q_isBelow (a1) (6)) fun r1 => (if r1 = 0 then (some (0, g)) else (qs_in (20) 24 (qs_in (21) 24 (qs_in (20) 24 (qs_st (qs_a g 13 (20 : Int32).toNatClampNeg (a2 * 8)) fun u6 => (qs_in (21) 24 (qs_st (qs_a u6 13 (21 : Int32).toNatClampNeg (a3 * 8)) fun u8 => (qs_in (22) 24 (qs_st (qs_a u8 13 (22 : Int32).toNatClampNeg (u8 23 0)) fun u10 => (qs_bn (f_M_perform u10 (a1)) fun r11 u12 => (qs_in (20) 24 (qs_st (qs_a u12 13 (20 : Int32).toNatClampNeg (g 13 (20 : Int32).toNatClampNeg)) fun u14 => (qs_in (21) 24 (qs_st (qs_a u14 13 (21 : Int32).toNatClampNeg (g 13 (21 : Int32).toNatClampNeg)) fun u16 => (if r11 ≤ 0 then (some (r11, u16)) else (qs_st (qs_i u16 26 ((u16 26 0) + 1)) fun u18 => (some (r11, u18)))))))))))))))))))
set_option maxHeartbeats 4000000 in
set_option maxRecDepth 100000 in
theorem c_M_start (l : Launch) (dC : Nat → ClassId) (dI : Nat → Nat → Nat) (h : Nat → Nat) (c : Nat → ClassId) (sz : Nat) (g : Sg) (a1 : Int32) (a2 : Int32) (a3 : Int32) (r0 : Int32) (u0 : Sg) (hF : f_M_start g a1 a2 a3 = some (r0, u0)) : Met l y_M_start (qs_ws y_M_start b_M_start 7 (some .int)) ({ frames := 4, cells := 0, slots := 0, locals := 95 } : Room) (va_Pc ([.ref (h 4), .int a1, .int a2, .int a3] : List Value) (fun U => U.heap.size = sz ∧ va_P (dC, dI) vwCl (qs_W h c g) U.heap ∧ va_K (dC, dI) vwCl (qs_T c) U ∧ va_D (fun _ => True) (qs_W h c g) ∧ qs_N U)) (va_Qi (fun (r : Int32) (u : Sg) => r = r0 ∧ u = u0) (qs_at dC dI h c (va_A (qs_W h c g) sz)) (va_A (qs_W h c g) sz)) 0 0 (va_A (qs_W h c g) sz) := by
  refine Met.ofW (cc := b_M_start) (maxL := 7) (ret := (some .int)) (by decide +kernel) rfl ?_
  intro p e s m args below meth cd s₁ B hml hv
  obtain ⟨rfl, hsz, hP, hK, hD0, hNs⟩ := hv
  have hx := B.exec
  have hb := B.bytes
  have hr := B.returns
  have hts := atoms_spec (ws := (qs_ws y_M_start b_M_start 7 (some .int))) B.pre
  have hg : ∀ w ∈ qs_gt, w.before _ s = true := fun w h => hts w (List.mem_cons_of_mem _ h)
  have hown : s.vm.findClass R_M = some m.cls := findClass_of_methodNamed B.named
  have hlocks := B.notSynchronized
  subst hsz
  have hD := hD0.self (sz := s.heap.size)
  generalize hAe : va_A (qs_W h c g) s.heap.size = A at hD ⊢
  have hA : ∀ q : Nat, s.heap.size ≤ q → A q := fun q h => by rw [← hAe]; exact Or.inr h
  have hS : va_S A s.heap s.heap [] := va_S.rf
  have hl := lv_entry ([.ref (h 4), .int a1, .int a2, .int a3] : List Value) (n := 7) (Nat.le_of_ble_eq_true rfl)
  rw [lg_entry_eq]
  generalize (lg_sl ([.ref (h 4), .int a1, .int a2, .int a3] : List Value) ++ List.replicate (7 - (lg_sl ([.ref (h 4), .int a1, .int a2, .int a3] : List Value)).length) Slot.unset).toArray = ls at hl ⊢
  have hl : lv_has ls 7 [(0, .ref (h 4)), (1, .int (a1)), (2, .int (a2)), (3, .int (a3))] := hl
  unfold f_M_start at hF
  obtain ⟨H, hHe⟩ : ∃ H, H = s.heap := ⟨_, rfl⟩
  obtain ⟨locs, hLe⟩ : ∃ L : List Loc, L = [] := ⟨_, rfl⟩
  rw [← hHe] at hP ⊢
  rw [← hLe]
  have hS : va_S A s.heap H locs := by rw [hHe, hLe]; exact hS
  refine lv_iload_n hx hb d_M_start_0 rfl (lv_at hl 1 rfl) ?_
  refine lv_bipush (v := 6) hx hb d_M_start_1 (by decide) ?_
  obtain ⟨r1, hX, hF⟩ := qs_pb_some hF
  refine qs_psi (va_runSN (own := "QuakeServer$Machine") (As := [.int (a1), .int (6)]) (rest := []) ⟨hx, hb, hml, hown, hg⟩ (c_Q_isBelow l H.size (a1) (6) r1 hX) ⟨va_cnB (own := "QuakeServer$Machine") (index := 40) (host := "QuakeServer") 2 hg (qs_gc t_313) rfl rfl rfl (nM_4 hNs) (hg _ t_1) (by decide +kernel) ⟨Nat.le_of_ble_eq_true rfl, Nat.le_of_ble_eq_true rfl⟩, hg _ t_312, trivial⟩ ⟨qs_blind0, fun U hU hW => ⟨rfl, by rw [hU], hNs.warm hW⟩⟩ rfl rfl hl.1 rfl (lv_room (Nat.le_of_ble_eq_true rfl)) d_M_start_3 ⟨Nat.le_of_ble_eq_true rfl, Nat.le_of_ble_eq_true rfl⟩) hP hD hS hA (fun H locs hP hS => ?_)
  refine lv_if_ne (tgt := 11) hx hb d_M_start_6 (by decide) (fun c2 => ?_) (fun c2 => ?_)
  · have hF := qs_neg c2 hF
    refine lv_aload_n hx hb d_M_start_11 rfl (lv_at hl 0 rfl) ?_
    refine va_get (D := (dC, dI)) (ci := 3) (v := .ref (h 13)) (C := R_M) (T := T_M) (N := 11) hx hb hg in_M hown hK hP 4 rfl rfl 2 (by decide) (hg _ t_79) (fun _ h9 => h9) rfl d_M_start_12 ?_
    refine lv_bipush (v := 20) hx hb d_M_start_15 (by decide) ?_
    obtain ⟨c3, hF⟩ := qs_in_some hF
    refine va_iald hx hb hK hP 13 6 rfl rfl c3 d_M_start_17 ?_
    refine lv_istore (lv' := [(4, .int (g 13 (20 : Int32).toNatClampNeg)), (0, .ref (h 4)), (1, .int (a1)), (2, .int (a2)), (3, .int (a3))]) hx hb d_M_start_18 hl (by decide) rfl (fun ls hl => ?_)
    refine lv_aload_n hx hb d_M_start_20 rfl (lv_at hl 1 rfl) ?_
    refine va_get (D := (dC, dI)) (ci := 3) (v := .ref (h 13)) (C := R_M) (T := T_M) (N := 11) hx hb hg in_M hown hK hP 4 rfl rfl 2 (by decide) (hg _ t_79) (fun _ h9 => h9) rfl d_M_start_21 ?_
    refine lv_bipush (v := 21) hx hb d_M_start_24 (by decide) ?_
    obtain ⟨c4, hF⟩ := qs_in_some hF
    refine va_iald hx hb hK hP 13 6 rfl rfl c4 d_M_start_26 ?_
    refine lv_istore (lv' := [(5, .int (g 13 (21 : Int32).toNatClampNeg)), (4, .int (g 13 (20 : Int32).toNatClampNeg)), (0, .ref (h 4)), (1, .int (a1)), (2, .int (a2)), (3, .int (a3))]) hx hb d_M_start_27 hl (by decide) rfl (fun ls hl => ?_)
    refine lv_aload_n hx hb d_M_start_29 rfl (lv_at hl 2 rfl) ?_
    refine va_get (D := (dC, dI)) (ci := 3) (v := .ref (h 13)) (C := R_M) (T := T_M) (N := 11) hx hb hg in_M hown hK hP 4 rfl rfl 2 (by decide) (hg _ t_79) (fun _ h9 => h9) rfl d_M_start_30 ?_
    refine lv_bipush (v := 20) hx hb d_M_start_33 (by decide) ?_
    refine lv_iload_n hx hb d_M_start_35 rfl (lv_at hl 4 rfl) ?_
    refine lv_bipush (v := 8) hx hb d_M_start_36 (by decide) ?_
    refine lv_imul hx hb d_M_start_38 ?_
    obtain ⟨c5, hF⟩ := qs_in_some hF
    refine va_iast hx hb hK hP hD hS 13 6 rfl rfl c5 d_M_start_39 (fun H locs hP hD hS => ?_)
    obtain ⟨u6, hu6, hF⟩ := qs_st_some hF
    have hP : va_P (dC, dI) vwCl (qs_W h c u6) H := by rw [hu6]; exact hP
    have hD : va_D A (qs_W h c u6) := by rw [hu6]; exact hD
    clear hu6
    refine lv_aload_n hx hb d_M_start_40 rfl (lv_at hl 2 rfl) ?_
    refine va_get (D := (dC, dI)) (ci := 3) (v := .ref (h 13)) (C := R_M) (T := T_M) (N := 11) hx hb hg in_M hown hK hP 4 rfl rfl 2 (by decide) (hg _ t_79) (fun _ h9 => h9) rfl d_M_start_41 ?_
    refine lv_bipush (v := 21) hx hb d_M_start_44 (by decide) ?_
    refine lv_iload_n hx hb d_M_start_46 rfl (lv_at hl 5 rfl) ?_
    refine lv_bipush (v := 8) hx hb d_M_start_47 (by decide) ?_
    refine lv_imul hx hb d_M_start_49 ?_
    obtain ⟨c7, hF⟩ := qs_in_some hF
    refine va_iast hx hb hK hP hD hS 13 6 rfl rfl c7 d_M_start_50 (fun H locs hP hD hS => ?_)
    obtain ⟨u8, hu8, hF⟩ := qs_st_some hF
    have hP : va_P (dC, dI) vwCl (qs_W h c u8) H := by rw [hu8]; exact hP
    have hD : va_D A (qs_W h c u8) := by rw [hu8]; exact hD
    clear hu8
    refine lv_aload_n hx hb d_M_start_51 rfl (lv_at hl 2 rfl) ?_
    refine va_get (D := (dC, dI)) (ci := 3) (v := .ref (h 13)) (C := R_M) (T := T_M) (N := 11) hx hb hg in_M hown hK hP 4 rfl rfl 2 (by decide) (hg _ t_79) (fun _ h9 => h9) rfl d_M_start_52 ?_
    refine lv_bipush (v := 22) hx hb d_M_start_55 (by decide) ?_
    refine lv_aload_n hx hb d_M_start_57 rfl (lv_at hl 2 rfl) ?_
    refine va_get (D := (dC, dI)) (ci := 3) (v := .int (u8 23 0)) (C := R_M) (T := T_M) (N := 11) hx hb hg in_M hown hK hP 4 rfl rfl 7 (by decide) (hg _ t_85) (fun _ h9 => h9) rfl d_M_start_58 ?_
    obtain ⟨c9, hF⟩ := qs_in_some hF
    refine va_iast hx hb hK hP hD hS 13 6 rfl rfl c9 d_M_start_61 (fun H locs hP hD hS => ?_)
    obtain ⟨u10, hu10, hF⟩ := qs_st_some hF
    have hP : va_P (dC, dI) vwCl (qs_W h c u10) H := by rw [hu10]; exact hP
    have hD : va_D A (qs_W h c u10) := by rw [hu10]; exact hD
    clear hu10
    refine lv_aload_n hx hb d_M_start_62 rfl (lv_at hl 2 rfl) ?_
    refine lv_iload_n hx hb d_M_start_63 rfl (lv_at hl 3 rfl) ?_
    obtain ⟨r11, u12, hX, hF⟩ := qs_bn_some hF
    refine qs_ci (Wd := qs_W h c) (isC := [0, 1, 2, 3, 4, 5, 6, 7, 8, 9, 10, 11, 12, 13, 14, 15, 16]) (va_runV (own := "QuakeServer$Machine") (C := "QuakeServer$Machine") (As := [.int (a1)]) (rest := []) ⟨hx, hb, hml, hown, hg⟩ (c_M_perform l dC dI h c H.size u10 (a1) r11 u12 hX) (cwV 1 hg (qs_gV t_442 t_444 tp_2 t_5 t_445) rfl rfl rfl (by decide +kernel) ⟨Nat.le_of_ble_eq_true rfl, Nat.le_of_ble_eq_true rfl⟩) ⟨qs_blind, va_recv hK hP (ci := 3) (q0 := 4) rfl rfl, fun U hU hW => ⟨rfl, by rw [hU], by rw [hU]; exact hP, va_K.moved hW.alike hK, hD.weaken (fun _ _ _ _ => trivial), hNs.warm hW⟩⟩ rfl rfl hl.1 rfl (lv_room (Nat.le_of_ble_eq_true rfl)) d_M_start_64 ⟨Nat.le_of_ble_eq_true rfl, Nat.le_of_ble_eq_true rfl⟩) rfl hP hD hS hA (fun H locs hP hD hS => ?_)
    refine lv_istore (lv' := [(6, .int (r11)), (5, .int (g 13 (21 : Int32).toNatClampNeg)), (4, .int (g 13 (20 : Int32).toNatClampNeg)), (0, .ref (h 4)), (1, .int (a1)), (2, .int (a2)), (3, .int (a3))]) hx hb d_M_start_67 hl (by decide) rfl (fun ls hl => ?_)
    refine lv_aload_n hx hb d_M_start_69 rfl (lv_at hl 3 rfl) ?_
    refine va_get (D := (dC, dI)) (ci := 3) (v := .ref (h 13)) (C := R_M) (T := T_M) (N := 11) hx hb hg in_M hown hK hP 4 rfl rfl 2 (by decide) (hg _ t_79) (fun _ h9 => h9) rfl d_M_start_70 ?_
    refine lv_bipush (v := 20) hx hb d_M_start_73 (by decide) ?_
    refine lv_iload hx hb d_M_start_75 (lv_at hl 2 rfl) ?_
    obtain ⟨c13, hF⟩ := qs_in_some hF
    refine va_iast hx hb hK hP hD hS 13 6 rfl rfl c13 d_M_start_77 (fun H locs hP hD hS => ?_)
    obtain ⟨u14, hu14, hF⟩ := qs_st_some hF
    have hP : va_P (dC, dI) vwCl (qs_W h c u14) H := by rw [hu14]; exact hP
    have hD : va_D A (qs_W h c u14) := by rw [hu14]; exact hD
    clear hu14
    refine lv_aload_n hx hb d_M_start_78 rfl (lv_at hl 3 rfl) ?_
    refine va_get (D := (dC, dI)) (ci := 3) (v := .ref (h 13)) (C := R_M) (T := T_M) (N := 11) hx hb hg in_M hown hK hP 4 rfl rfl 2 (by decide) (hg _ t_79) (fun _ h9 => h9) rfl d_M_start_79 ?_
    refine lv_bipush (v := 21) hx hb d_M_start_82 (by decide) ?_
    refine lv_iload hx hb d_M_start_84 (lv_at hl 1 rfl) ?_
    obtain ⟨c15, hF⟩ := qs_in_some hF
    refine va_iast hx hb hK hP hD hS 13 6 rfl rfl c15 d_M_start_86 (fun H locs hP hD hS => ?_)
    obtain ⟨u16, hu16, hF⟩ := qs_st_some hF
    have hP : va_P (dC, dI) vwCl (qs_W h c u16) H := by rw [hu16]; exact hP
    have hD : va_D A (qs_W h c u16) := by rw [hu16]; exact hD
    clear hu16
    refine lv_iload hx hb d_M_start_87 (lv_at hl 0 rfl) ?_
    refine lv_if_le (tgt := 102) hx hb d_M_start_89 (by decide) (fun c17 => ?_) (fun c17 => ?_)
    · have hF := qs_pos c17 hF
      refine lv_iload hx hb d_M_start_102 (lv_at hl 0 rfl) ?_
      obtain ⟨h8, h9⟩ := qs_ret hF
      exact W.iret (v := r11) hx hb hr (fun t ht hW => ⟨⟨r11, u16, rfl, ⟨h8, h9⟩, by rw [ht]; exact hP, va_K.moved hW.alike hK, hD⟩, hS.F ht⟩) hS.2.2 d_M_start_104
    · have hF := qs_neg c17 hF
      refine lv_aload_n hx hb d_M_start_92 rfl (lv_at hl 3 rfl) ?_
      refine lv_dup hx hb d_M_start_93 rfl ?_
      refine va_get (D := (dC, dI)) (ci := 3) (v := .int (u16 26 0)) (C := R_M) (T := T_M) (N := 11) hx hb hg in_M hown hK hP 4 rfl rfl 10 (by decide) (hg _ t_92) (fun _ h9 => h9) rfl d_M_start_94 ?_
      refine lv_iconst (v := 1) hx hb d_M_start_97 (by decide) ?_
      refine lv_iadd hx hb d_M_start_98 ?_
      refine va_put (D := (dC, dI)) (ci := 3) (v := .int ((u16 26 0) + 1)) (ty := .int) (C := R_M) (T := T_M) (N := 11) hx hb hg in_M ty_M ty_M_ok nm_M hown hK hP hD hS 4 rfl rfl 10 (by decide) (hg _ t_92) (fun _ h9 => h9) rfl (by decide +kernel) rfl rfl (Nat.le_of_ble_eq_true rfl) d_M_start_99 (fun H locs hP hD hS => ?_)
      obtain ⟨u18, hu18, hF⟩ := qs_st_some hF
      have hP : va_P (dC, dI) vwCl (qs_W h c u18) H := by rw [hu18]; exact hP
      have hD : va_D A (qs_W h c u18) := by rw [hu18]; exact hD
      clear hu18
      refine lv_iload hx hb d_M_start_102 (lv_at hl 0 rfl) ?_
      obtain ⟨h8, h9⟩ := qs_ret hF
      exact W.iret (v := r11) hx hb hr (fun t ht hW => ⟨⟨r11, u18, rfl, ⟨h8, h9⟩, by rw [ht]; exact hP, va_K.moved hW.alike hK, hD⟩, hS.F ht⟩) hS.2.2 d_M_start_104
  · have hF := qs_pos c2 hF
    refine lv_iconst (v := 0) hx hb d_M_start_9 (by decide) ?_
    obtain ⟨h8, h9⟩ := qs_ret hF
    exact W.iret (v := 0) hx hb hr (fun t ht hW => ⟨⟨0, g, rfl, ⟨h8, h9⟩, by rw [ht]; exact hP, va_K.moved hW.alike hK, hD⟩, hS.F ht⟩) hS.2.2 d_M_start_10
