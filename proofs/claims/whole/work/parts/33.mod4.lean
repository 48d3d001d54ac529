theorem d_N_instructions_0 : decode b_N_instructions 0 = .ok (.aload_n 0, 1) := by decide +kernel
theorem d_N_instructions_1 : decode b_N_instructions 1 = .ok (.iconst 0, 1) := by decide +kernel
theorem d_N_instructions_2 : decode b_N_instructions 2 = .ok (.putfield 133, 3) := by decide +kernel
theorem d_N_instructions_5 : decode b_N_instructions 5 = .ok (.iconst 0, 1) := by decide +kernel
theorem d_N_instructions_6 : decode b_N_instructions 6 = .ok (.istore_n 2, 1) := by decide +kernel
theorem d_N_instructions_7 : decode b_N_instructions 7 = .ok (.aload_n 0, 1) := by decide +kernel
theorem d_N_instructions_8 : decode b_N_instructions 8 = .ok (.bipush 15, 2) := by decide +kernel
theorem d_N_instructions_10 : decode b_N_instructions 10 = .ok (.iload_n 1, 1) := by decide +kernel
theorem d_N_instructions_11 : decode b_N_instructions 11 = .ok (.imul, 1) := by decide +kernel
theorem d_N_instructions_12 : decode b_N_instructions 12 = .ok (.invokevirtual 136, 3) := by decide +kernel
theorem d_N_instructions_15 : decode b_N_instructions 15 = .ok (.istore_n 3, 1) := by decide +kernel
theorem d_N_instructions_16 : decode b_N_instructions 16 = .ok (.iload_n 3, 1) := by decide +kernel
theorem d_N_instructions_17 : decode b_N_instructions 17 = .ok (.ifCond .lt 224, 3) := by decide +kernel
theorem d_N_instructions_20 : decode b_N_instructions 20 = .ok (.iload_n 2, 1) := by decide +kernel
theorem d_N_instructions_21 : decode b_N_instructions 21 = .ok (.bipush 60, 2) := by decide +kernel
theorem d_N_instructions_23 : decode b_N_instructions 23 = .ok (.if_icmp .ne 15, 3) := by decide +kernel
theorem d_N_instructions_26 : decode b_N_instructions 26 = .ok (.aload_n 0, 1) := by decide +kernel
theorem d_N_instructions_27 : decode b_N_instructions 27 = .ok (.dup, 1) := by decide +kernel
theorem d_N_instructions_28 : decode b_N_instructions 28 = .ok (.getfield 139, 3) := by decide +kernel
theorem d_N_instructions_31 : decode b_N_instructions 31 = .ok (.iconst 1, 1) := by decide +kernel
theorem d_N_instructions_32 : decode b_N_instructions 32 = .ok (.iadd, 1) := by decide +kernel
theorem d_N_instructions_33 : decode b_N_instructions 33 = .ok (.putfield 139, 3) := by decide +kernel
theorem d_N_instructions_36 : decode b_N_instructions 36 = .ok (.iload_n 2, 1) := by decide +kernel
theorem d_N_instructions_37 : decode b_N_instructions 37 = .ok (.ireturn, 1) := by decide +kernel
theorem d_N_instructions_38 : decode b_N_instructions 38 = .ok (.iinc 2 1, 3) := by decide +kernel
theorem d_N_instructions_41 : decode b_N_instructions 41 = .ok (.bipush 14, 2) := by decide +kernel
theorem d_N_instructions_43 : decode b_N_instructions 43 = .ok (.iload_n 3, 1) := by decide +kernel
theorem d_N_instructions_44 : decode b_N_instructions 44 = .ok (.bipush 15, 2) := by decide +kernel
theorem d_N_instructions_46 : decode b_N_instructions 46 = .ok (.idiv, 1) := by decide +kernel
theorem d_N_instructions_47 : decode b_N_instructions 47 = .ok (.imul, 1) := by decide +kernel
theorem d_N_instructions_48 : decode b_N_instructions 48 = .ok (.iload_n 3, 1) := by decide +kernel
theorem d_N_instructions_49 : decode b_N_instructions 49 = .ok (.bipush 15, 2) := by decide +kernel
theorem d_N_instructions_51 : decode b_N_instructions 51 = .ok (.irem, 1) := by decide +kernel
theorem d_N_instructions_52 : decode b_N_instructions 52 = .ok (.iadd, 1) := by decide +kernel
theorem d_N_instructions_53 : decode b_N_instructions 53 = .ok (.istore 4, 2) := by decide +kernel
theorem d_N_instructions_55 : decode b_N_instructions 55 = .ok (.iload_n 3, 1) := by decide +kernel
theorem d_N_instructions_56 : decode b_N_instructions 56 = .ok (.iconst 1, 1) := by decide +kernel
theorem d_N_instructions_57 : decode b_N_instructions 57 = .ok (.iadd, 1) := by decide +kernel
theorem d_N_instructions_58 : decode b_N_instructions 58 = .ok (.istore 5, 2) := by decide +kernel
theorem d_N_instructions_60 : decode b_N_instructions 60 = .ok (.bipush 15, 2) := by decide +kernel
theorem d_N_instructions_62 : decode b_N_instructions 62 = .ok (.iload_n 3, 1) := by decide +kernel
theorem d_N_instructions_63 : decode b_N_instructions 63 = .ok (.bipush 15, 2) := by decide +kernel
theorem d_N_instructions_65 : decode b_N_instructions 65 = .ok (.idiv, 1) := by decide +kernel
theorem d_N_instructions_66 : decode b_N_instructions 66 = .ok (.imul, 1) := by decide +kernel
theorem d_N_instructions_67 : decode b_N_instructions 67 = .ok (.aload_n 0, 1) := by decide +kernel
theorem d_N_instructions_68 : decode b_N_instructions 68 = .ok (.getfield 33, 3) := by decide +kernel
theorem d_N_instructions_71 : decode b_N_instructions 71 = .ok (.iload 4, 2) := by decide +kernel
theorem d_N_instructions_73 : decode b_N_instructions 73 = .ok (.iaload, 1) := by decide +kernel
theorem d_N_instructions_74 : decode b_N_instructions 74 = .ok (.iadd, 1) := by decide +kernel
theorem d_N_instructions_75 : decode b_N_instructions 75 = .ok (.istore 6, 2) := by decide +kernel
theorem d_N_instructions_77 : decode b_N_instructions 77 = .ok (.aload_n 0, 1) := by decide +kernel
theorem d_N_instructions_78 : decode b_N_instructions 78 = .ok (.getfield 26, 3) := by decide +kernel
theorem d_N_instructions_81 : decode b_N_instructions 81 = .ok (.iload 4, 2) := by decide +kernel
theorem d_N_instructions_83 : decode b_N_instructions 83 = .ok (.iaload, 1) := by decide +kernel
theorem d_N_instructions_84 : decode b_N_instructions 84 = .ok (.tableswitch 141 9 16 #[48, 72, 79, 141, 141, 141, 141, 135], 48) := by decide +kernel
theorem d_N_instructions_132 : decode b_N_instructions 132 = .ok (.aload_n 0, 1) := by decide +kernel
theorem d_N_instructions_133 : decode b_N_instructions 133 = .ok (.getfield 42, 3) := by decide +kernel
theorem d_N_instructions_136 : decode b_N_instructions 136 = .ok (.aload_n 0, 1) := by decide +kernel
theorem d_N_instructions_137 : decode b_N_instructions 137 = .ok (.getfield 30, 3) := by decide +kernel
theorem d_N_instructions_140 : decode b_N_instructions 140 = .ok (.iload 4, 2) := by decide +kernel
theorem d_N_instructions_142 : decode b_N_instructions 142 = .ok (.iaload, 1) := by decide +kernel
theorem d_N_instructions_143 : decode b_N_instructions 143 = .ok (.laload, 1) := by decide +kernel
theorem d_N_instructions_144 : decode b_N_instructions 144 = .ok (.lconst 0, 1) := by decide +kernel
theorem d_N_instructions_145 : decode b_N_instructions 145 = .ok (.lcmp, 1) := by decide +kernel
theorem d_N_instructions_146 : decode b_N_instructions 146 = .ok (.ifCond .ne 85, 3) := by decide +kernel
theorem d_N_instructions_149 : decode b_N_instructions 149 = .ok (.iload 6, 2) := by decide +kernel
theorem d_N_instructions_151 : decode b_N_instructions 151 = .ok (.istore 5, 2) := by decide +kernel
theorem d_N_instructions_153 : decode b_N_instructions 153 = .ok (.goto 78, 3) := by decide +kernel
theorem d_N_instructions_156 : decode b_N_instructions 156 = .ok (.iload 6, 2) := by decide +kernel
theorem d_N_instructions_158 : decode b_N_instructions 158 = .ok (.istore 5, 2) := by decide +kernel
theorem d_N_instructions_160 : decode b_N_instructions 160 = .ok (.goto 71, 3) := by decide +kernel
theorem d_N_instructions_163 : decode b_N_instructions 163 = .ok (.aload_n 0, 1) := by decide +kernel
theorem d_N_instructions_164 : decode b_N_instructions 164 = .ok (.getfield 133, 3) := by decide +kernel
theorem d_N_instructions_167 : decode b_N_instructions 167 = .ok (.iconst 5, 1) := by decide +kernel
theorem d_N_instructions_168 : decode b_N_instructions 168 = .ok (.if_icmp .ne 15, 3) := by decide +kernel
theorem d_N_instructions_171 : decode b_N_instructions 171 = .ok (.aload_n 0, 1) := by decide +kernel
theorem d_N_instructions_172 : decode b_N_instructions 172 = .ok (.dup, 1) := by decide +kernel
theorem d_N_instructions_173 : decode b_N_instructions 173 = .ok (.getfield 139, 3) := by decide +kernel
theorem d_N_instructions_176 : decode b_N_instructions 176 = .ok (.iconst 1, 1) := by decide +kernel
theorem d_N_instructions_177 : decode b_N_instructions 177 = .ok (.iadd, 1) := by decide +kernel
theorem d_N_instructions_178 : decode b_N_instructions 178 = .ok (.putfield 139, 3) := by decide +kernel
theorem d_N_instructions_181 : decode b_N_instructions 181 = .ok (.iload_n 2, 1) := by decide +kernel
theorem d_N_instructions_182 : decode b_N_instructions 182 = .ok (.ireturn, 1) := by decide +kernel
theorem d_N_instructions_183 : decode b_N_instructions 183 = .ok (.aload_n 0, 1) := by decide +kernel
theorem d_N_instructions_184 : decode b_N_instructions 184 = .ok (.getfield 49, 3) := by decide +kernel
theorem d_N_instructions_187 : decode b_N_instructions 187 = .ok (.aload_n 0, 1) := by decide +kernel
theorem d_N_instructions_188 : decode b_N_instructions 188 = .ok (.getfield 133, 3) := by decide +kernel
theorem d_N_instructions_191 : decode b_N_instructions 191 = .ok (.iload 5, 2) := by decide +kernel
theorem d_N_instructions_193 : decode b_N_instructions 193 = .ok (.iastore, 1) := by decide +kernel
theorem d_N_instructions_194 : decode b_N_instructions 194 = .ok (.aload_n 0, 1) := by decide +kernel
theorem d_N_instructions_195 : decode b_N_instructions 195 = .ok (.dup, 1) := by decide +kernel
theorem d_N_instructions_196 : decode b_N_instructions 196 = .ok (.getfield 133, 3) := by decide +kernel
theorem d_N_instructions_199 : decode b_N_instructions 199 = .ok (.iconst 1, 1) := by decide +kernel
theorem d_N_instructions_200 : decode b_N_instructions 200 = .ok (.iadd, 1) := by decide +kernel
theorem d_N_instructions_201 : decode b_N_instructions 201 = .ok (.putfield 133, 3) := by decide +kernel
theorem d_N_instructions_204 : decode b_N_instructions 204 = .ok (.bipush 15, 2) := by decide +kernel
theorem d_N_instructions_206 : decode b_N_instructions 206 = .ok (.aload_n 0, 1) := by decide +kernel
theorem d_N_instructions_207 : decode b_N_instructions 207 = .ok (.getfield 30, 3) := by decide +kernel
theorem d_N_instructions_210 : decode b_N_instructions 210 = .ok (.iload 4, 2) := by decide +kernel
theorem d_N_instructions_212 : decode b_N_instructions 212 = .ok (.iaload, 1) := by decide +kernel
theorem d_N_instructions_213 : decode b_N_instructions 213 = .ok (.imul, 1) := by decide +kernel
theorem d_N_instructions_214 : decode b_N_instructions 214 = .ok (.istore 5, 2) := by decide +kernel
theorem d_N_instructions_216 : decode b_N_instructions 216 = .ok (.goto 15, 3) := by decide +kernel
theorem d_N_instructions_219 : decode b_N_instructions 219 = .ok (.iconst (-1), 1) := by decide +kernel
theorem d_N_instructions_220 : decode b_N_instructions 220 = .ok (.istore 5, 2) := by decide +kernel
theorem d_N_instructions_222 : decode b_N_instructions 222 = .ok (.goto 9, 3) := by decide +kernel
theorem d_N_instructions_225 : decode b_N_instructions 225 = .ok (.aload_n 0, 1) := by decide +kernel
theorem d_N_instructions_226 : decode b_N_instructions 226 = .ok (.iload 4, 2) := by decide +kernel
theorem d_N_instructions_228 : decode b_N_instructions 228 = .ok (.invokevirtual 142, 3) := by decide +kernel
theorem d_N_instructions_231 : decode b_N_instructions 231 = .ok (.aload_n 0, 1) := by decide +kernel
theorem d_N_instructions_232 : decode b_N_instructions 232 = .ok (.iload 5, 2) := by decide +kernel
theorem d_N_instructions_234 : decode b_N_instructions 234 = .ok (.invokevirtual 136, 3) := by decide +kernel
theorem d_N_instructions_237 : decode b_N_instructions 237 = .ok (.istore_n 3, 1) := by decide +kernel
theorem d_N_instructions_238 : decode b_N_instructions 238 = .ok (.goto (-222), 3) := by decide +kernel
theorem d_N_instructions_241 : decode b_N_instructions 241 = .ok (.iload_n 2, 1) := by decide +kernel
theorem d_N_instructions_242 : decode b_N_instructions 242 = .ok (.ireturn, 1) := by decide +kernel
def f_N_instructions_231 (k16 : Sm → Int32 → Int32 → Option (Int32 × Sm)) (g : Sm) (x2 : Int32) (x5 : Int32) : Option (Int32 × Sm) := (qs_bn (f_N_unwound g (x5)) fun r36 u37 => (k16 u37 (x2) (r36)))
def f_N_instructions_16  : Nat → Sm → Int32 → Int32 → Option (Int32 × Sm)
  | 0, _, _, _ => none
  | n + 1, g, x2, x3 => (if x3 < 0 then (some (x2, g)) else (if x2 = 60 then (qs_st (qm_i g 24 ((g.1 24 0) + 1)) fun u35 => (some (x2, u35))) else (qs_in ((14 * (x3 / 15)) + (x3 - x3 / 15 * 15)) 84 (qs_in ((14 * (x3 / 15)) + (x3 - x3 / 15 * 15)) 84 (if g.1 6 ((14 * (x3 / 15)) + (x3 - x3 / 15 * 15)).toNatClampNeg = 9 then (qs_in ((14 * (x3 / 15)) + (x3 - x3 / 15 * 15)) 84 (qs_in (g.1 7 ((14 * (x3 / 15)) + (x3 - x3 / 15 * 15)).toNatClampNeg) 24 (if (lg_cmp (g.2 11 (g.1 7 ((14 * (x3 / 15)) + (x3 - x3 / 15 * 15)).toNatClampNeg).toNatClampNeg) (0 : Int64)) = 0 then (f_N_instructions_231 (fun g x2 x3 => f_N_instructions_16  n g x2 x3) g (x2 + 1) ((15 * (x3 / 15)) + (g.1 8 ((14 * (x3 / 15)) + (x3 - x3 / 15 * 15)).toNatClampNeg))) else (f_N_instructions_231 (fun g x2 x3 => f_N_instructions_16  n g x2 x3) g (x2 + 1) (x3 + 1))))) else (if g.1 6 ((14 * (x3 / 15)) + (x3 - x3 / 15 * 15)).toNatClampNeg = 10 then (f_N_instructions_231 (fun g x2 x3 => f_N_instructions_16  n g x2 x3) g (x2 + 1) ((15 * (x3 / 15)) + (g.1 8 ((14 * (x3 / 15)) + (x3 - x3 / 15 * 15)).toNatClampNeg))) else (if g.1 6 ((14 * (x3 / 15)) + (x3 - x3 / 15 * 15)).toNatClampNeg = 11 then (if (g.1 29 0) = 5 then (qs_st (qm_i g 24 ((g.1 24 0) + 1)) fun u19 => (some (x2 + 1, u19))) else (qs_in (g.1 29 0) 6 (qs_st (qm_a g 12 (g.1 29 0).toNatClampNeg (x3 + 1)) fun u16 => (qs_st (qm_i u16 29 ((u16.1 29 0) + 1)) fun u17 => (qs_in ((14 * (x3 / 15)) + (x3 - x3 / 15 * 15)) 84 (f_N_instructions_231 (fun g x2 x3 => f_N_instructions_16  n g x2 x3) u17 (x2 + 1) (15 * (u17.1 7 ((14 * (x3 / 15)) + (x3 - x3 / 15 * 15)).toNatClampNeg)))))))) else (if g.1 6 ((14 * (x3 / 15)) + (x3 - x3 / 15 * 15)).toNatClampNeg = 12 then (qs_bn (f_N_instruction g ((14 * (x3 / 15)) + (x3 - x3 / 15 * 15))) fun _ u22 => (f_N_instructions_231 (fun g x2 x3 => f_N_instructions_16  n g x2 x3) u22 (x2 + 1) (x3 + 1))) else (if g.1 6 ((14 * (x3 / 15)) + (x3 - x3 / 15 * 15)).toNatClampNeg = 13 then (qs_bn (f_N_instruction g ((14 * (x3 / 15)) + (x3 - x3 / 15 * 15))) fun _ u25 => (f_N_instructions_231 (fun g x2 x3 => f_N_instructions_16  n g x2 x3) u25 (x2 + 1) (x3 + 1))) else (if g.1 6 ((14 * (x3 / 15)) + (x3 - x3 / 15 * 15)).toNatClampNeg = 14 then (qs_bn (f_N_instruction g ((14 * (x3 / 15)) + (x3 - x3 / 15 * 15))) fun _ u28 => (f_N_instructions_231 (fun g x2 x3 => f_N_instructions_16  n g x2 x3) u28 (x2 + 1) (x3 + 1))) else (if g.1 6 ((14 * (x3 / 15)) + (x3 - x3 / 15 * 15)).toNatClampNeg = 15 then (qs_bn (f_N_instruction g ((14 * (x3 / 15)) + (x3 - x3 / 15 * 15))) fun _ u31 => (f_N_instructions_231 (fun g x2 x3 => f_N_instructions_16  n g x2 x3) u31 (x2 + 1) (x3 + 1))) else (if g.1 6 ((14 * (x3 / 15)) + (x3 - x3 / 15 * 15)).toNatClampNeg = 16 then (f_N_instructions_231 (fun g x2 x3 => f_N_instructions_16  n g x2 x3) g (x2 + 1) ((-1))) else (qs_bn (f_N_instruction g ((14 * (x3 / 15)) + (x3 - x3 / 15 * 15))) fun _ u34 => (f_N_instructions_231 (fun g x2 x3 => f_N_instructions_16  n g x2 x3) u34 (x2 + 1) (x3 + 1)))))))))))))))
def f_N_instructions (g : Sm) (a1 : Int32) : Option (Int32 × Sm) := (qs_st (qm_i g 29 (0)) fun u1 => (qs_bn (f_N_unwound u1 (15 * a1)) fun r2 u3 => (f_N_instructions_16 200 u3 (0) (r2))))
set_option maxHeartbeats 4000000 in
set_option maxRecDepth 100000 in
theorem c_N_instructions (l : Launch) (dC : Nat → ClassId) (dI : Nat → Nat → Nat) (h : Nat → Nat) (c : Nat → ClassId) (sz : Nat) (g : Sm) (a1 : Int32) (r0 : Int32) (u0 : Sm) (hF : f_N_instructions g a1 = some (r0, u0)) : Met l y_N_instructions (qs_ws y_N_instructions b_N_instructions 7 (some .int)) ({ frames := 4, cells := 0, slots := 0, locals := 95 } : Room) (va_Pc ([.ref (h 0), .int a1] : List Value) (fun U => U.heap.size = sz ∧ va_P (dC, dI) vwCl (ms_W h c g) U.heap ∧ va_K (dC, dI) vwCl (ms_T c) U ∧ va_D (fun _ => True) (ms_W h c g) ∧ qs_N U)) (va_Qi (fun (r : Int32) (u : Sm) => r = r0 ∧ u = u0) (ms_at dC dI h c (va_A (ms_W h c g) sz)) (va_A (ms_W h c g) sz)) 0 0 (va_A (ms_W h c g) sz) := by
  refine Met.ofW (cc := b_N_instructions) (maxL := 7) (ret := (some .int)) (by decide +kernel) rfl ?_
  intro p e s m args below meth cd s₁ B hml hv
  obtain ⟨rfl, hsz, hP, hK, hD0, hNs⟩ := hv
  have hx := B.exec
  have hb := B.bytes
  have hr := B.returns
  have hts := atoms_spec (ws := (qs_ws y_N_instructions b_N_instructions 7 (some .int))) B.pre
  have hg : ∀ w ∈ qs_gt, w.before _ s = true := fun w h => hts w (List.mem_cons_of_mem _ h)
  have hown : s.vm.findClass R_N = some m.cls := findClass_of_methodNamed B.named
  have hlocks := B.notSynchronized
  subst hsz
  have hD := hD0.self (sz := s.heap.size)
  generalize hAe : va_A (ms_W h c g) s.heap.size = A at hD ⊢
  have hA : ∀ q : Nat, s.heap.size ≤ q → A q := fun q h => by rw [← hAe]; exact Or.inr h
  have hS : va_S A s.heap s.heap [] := va_S.rf
  have kb_231 : ∀ (k16 : Sm → Int32 → Int32 → Option (Int32 × Sm)), (∀ (g : Sm) (x2 : Int32) (x3 : Int32) (H : Heap) (locs : List Loc) (ls : Array Slot), va_P (dC, dI) vwCl (ms_W h c g) H → va_D A (ms_W h c g) → va_S A s.heap H locs → lv_has ls 7 [(0, .ref (h 0)), (2, .int (x2)), (3, .int (x3))] → k16 g x2 x3 = some (r0, u0) → W p l e (headSpec (qs_ws y_N_instructions b_N_instructions 7 (some .int)) ({ frames := 4, cells := 0, slots := 0, locals := 95 } : Room)).room s m ([.ref (h 0), .int a1] : List Value).toArray below meth cd H locs 0 0 (MQ below (va_Qi (fun (r : Int32) (u : Sm) => r = r0 ∧ u = u0) (ms_at dC dI h c A) A) ([.ref (h 0), .int a1] : List Value).toArray s 0 0 A) (F0 m 16 ls [])) → ∀ (g : Sm) (x2 : Int32) (x5 : Int32) (H : Heap) (locs : List Loc) (ls : Array Slot), va_P (dC, dI) vwCl (ms_W h c g) H → va_D A (ms_W h c g) → va_S A s.heap H locs → lv_has ls 7 [(0, .ref (h 0)), (2, .int (x2)), (5, .int (x5))] → f_N_instructions_231 k16  g x2 x5 = some (r0, u0) → W p l e (headSpec (qs_ws y_N_instructions b_N_instructions 7 (some .int)) ({ frames := 4, cells := 0, slots := 0, locals := 95 } : Room)).room s m ([.ref (h 0), .int a1] : List Value).toArray below meth cd H locs 0 0 (MQ below (va_Qi (fun (r : Int32) (u : Sm) => r = r0 ∧ u = u0) (ms_at dC dI h c A) A) ([.ref (h 0), .int a1] : List Value).toArray s 0 0 A) (F0 m 231 ls []) := by
    intro k16 hk16
    intro g x2 x5 H locs ls hP hD hS hl hF
    unfold f_N_instructions_231 at hF
    refine lv_aload_n hx hb d_N_instructions_231 rfl (lv_at hl 0 rfl) ?_
    refine lv_iload hx hb d_N_instructions_232 (lv_at hl 2 rfl) ?_
    obtain ⟨r36, u37, hX, hF⟩ := qs_bn_some hF
    refine qs_ci (Wd := ms_W h c) (isC := [0, 1, 2, 3, 4, 5, 6, 7, 8, 9, 10, 11, 12]) (va_runV (own := "QuakeServerModel") (C := "QuakeServerModel") (As := [.int (x5)]) (rest := []) ⟨hx, hb, hml, hown, hg⟩ (c_N_unwound l dC dI h c H.size g (x5) r36 u37 hX) (cwV 1 hg (qs_gV t_765 t_767 tp_22 t_8 t_768) rfl rfl rfl (by decide +kernel) ⟨Nat.le_of_ble_eq_true rfl, Nat.le_of_ble_eq_true rfl⟩) ⟨qs_blind, va_recv hK hP (ci := 7) (q0 := 0) rfl rfl, fun U hU hW => ⟨rfl, by rw [hU], by rw [hU]; exact hP, va_K.moved hW.alike hK, hD.weaken (fun _ _ _ _ => trivial), hNs.warm hW⟩⟩ rfl rfl hl.1 rfl (lv_room (Nat.le_of_ble_eq_true rfl)) d_N_instructions_234 ⟨Nat.le_of_ble_eq_true rfl, Nat.le_of_ble_eq_true rfl⟩) rfl hP hD hS hA (fun H locs hP hD hS => ?_)
    refine lv_istore_n (lv' := [(3, .int (r36)), (0, .ref (h 0)), (2, .int (x2)), (5, .int (x5))]) hx hb d_N_instructions_237 rfl hl (by decide) rfl (fun ls hl => ?_)
    refine lv_goto (tgt := 16) hx hb d_N_instructions_238 (by decide) ?_
    exact hk16 u37 (x2) (r36) H locs ls hP hD hS (lv_sub hl [1, 2, 0] rfl) hF
  have kb_16 : ∀ n : Nat, ∀ (g : Sm) (x2 : Int32) (x3 : Int32) (H : Heap) (locs : List Loc) (ls : Array Slot), va_P (dC, dI) vwCl (ms_W h c g) H → va_D A (ms_W h c g) → va_S A s.heap H locs → lv_has ls 7 [(0, .ref (h 0)), (2, .int (x2)), (3, .int (x3))] → f_N_instructions_16 n g x2 x3 = some (r0, u0) → W p l e (headSpec (qs_ws y_N_instructions b_N_instructions 7 (some .int)) ({ frames := 4, cells := 0, slots := 0, locals := 95 } : Room)).room s m ([.ref (h 0), .int a1] : List Value).toArray below meth cd H locs 0 0 (MQ below (va_Qi (fun (r : Int32) (u : Sm) => r = r0 ∧ u = u0) (ms_at dC dI h c A) A) ([.ref (h 0), .int a1] : List Value).toArray s 0 0 A) (F0 m 16 ls []) := by
    intro n
    induction n with
    | zero =>
      intro g x2 x3 H locs ls hP hD hS hl hF
      exact nomatch (show (none : Option (Int32 × Sm)) = some _ from hF)
    | succ n ih =>
      intro g x2 x3 H locs ls hP hD hS hl hF
      rw [f_N_instructions_16] at hF
      refine lv_iload_n hx hb d_N_instructions_16 rfl (lv_at hl 2 rfl) ?_
      refine lv_if_lt (tgt := 241) hx hb d_N_instructions_17 (by decide) (fun c4 => ?_) (fun c4 => ?_)
      · have hF := qs_pos c4 hF
        refine lv_iload_n hx hb d_N_instructions_241 rfl (lv_at hl 1 rfl) ?_
        obtain ⟨h8, h9⟩ := qs_ret hF
        exact W.iret (v := x2) hx hb hr (fun t ht hW => ⟨⟨x2, g, rfl, ⟨h8, h9⟩, by rw [ht]; exact hP, va_K.moved hW.alike hK, hD⟩, hS.F ht⟩) hS.2.2 d_N_instructions_242
      · have hF := qs_neg c4 hF
        refine lv_iload_n hx hb d_N_instructions_20 rfl (lv_at hl 1 rfl) ?_
        refine lv_bipush (v := 60) hx hb d_N_instructions_21 (by decide) ?_
        refine lv_icmp_ne (tgt := 38) hx hb d_N_instructions_23 (by decide) (fun c5 => ?_) (fun c5 => ?_)
        · have hF := qs_neg c5 hF
          refine lv_iinc (v := x2 + 1) (lv' := [(2, .int (x2 + 1)), (0, .ref (h 0)), (3, .int (x3))]) hx hb d_N_instructions_38 hl (k := 1) rfl (by rfl) (by decide) rfl (fun ls hl => ?_)
          refine lv_bipush (v := 14) hx hb d_N_instructions_41 (by decide) ?_
          refine lv_iload_n hx hb d_N_instructions_43 rfl (lv_at hl 2 rfl) ?_
          refine lv_bipush (v := 15) hx hb d_N_instructions_44 (by decide) ?_
          refine lv_idiv hx hb d_N_instructions_46 (by decide) ?_
          refine lv_imul hx hb d_N_instructions_47 ?_
          refine lv_iload_n hx hb d_N_instructions_48 rfl (lv_at hl 2 rfl) ?_
          refine lv_bipush (v := 15) hx hb d_N_instructions_49 (by decide) ?_
          refine lv_irem hx hb d_N_instructions_51 (by decide) ?_
          refine lv_iadd hx hb d_N_instructions_52 ?_
          refine lv_istore (lv' := [(4, .int ((14 * (x3 / 15)) + (x3 - x3 / 15 * 15))), (2, .int (x2 + 1)), (0, .ref (h 0)), (3, .int (x3))]) hx hb d_N_instructions_53 hl (by decide) rfl (fun ls hl => ?_)
          refine lv_iload_n hx hb d_N_instructions_55 rfl (lv_at hl 3 rfl) ?_
          refine lv_iconst (v := 1) hx hb d_N_instructions_56 (by decide) ?_
          refine lv_iadd hx hb d_N_instructions_57 ?_
          refine lv_istore (lv' := [(5, .int (x3 + 1)), (4, .int ((14 * (x3 / 15)) + (x3 - x3 / 15 * 15))), (2, .int (x2 + 1)), (0, .ref (h 0)), (3, .int (x3))]) hx hb d_N_instructions_58 hl (by decide) rfl (fun ls hl => ?_)
          refine lv_bipush (v := 15) hx hb d_N_instructions_60 (by decide) ?_
          refine lv_iload_n hx hb d_N_instructions_62 rfl (lv_at hl 4 rfl) ?_
          refine lv_bipush (v := 15) hx hb d_N_instructions_63 (by decide) ?_
          refine lv_idiv hx hb d_N_instructions_65 (by decide) ?_
          refine lv_imul hx hb d_N_instructions_66 ?_
          refine lv_aload_n hx hb d_N_instructions_67 rfl (lv_at hl 3 rfl) ?_
          refine va_get (D := (dC, dI)) (ci := 7) (v := .ref (h 8)) (C := R_N) (T := T_N) (N := 22) hx hb hg in_N hown hK hP 0 rfl rfl 9 (by decide) (hg _ t_627) (fun _ h9 => h9) rfl d_N_instructions_68 ?_
          refine lv_iload hx hb d_N_instructions_71 (lv_at hl 1 rfl) ?_
          obtain ⟨c6, hF⟩ := qs_in_some hF
          refine va_iald hx hb hK hP 8 7 rfl rfl c6 d_N_instructions_73 ?_
          refine lv_iadd hx hb d_N_instructions_74 ?_
          refine lv_istore (lv' := [(6, .int ((15 * (x3 / 15)) + (g.1 8 ((14 * (x3 / 15)) + (x3 - x3 / 15 * 15)).toNatClampNeg))), (5, .int (x3 + 1)), (4, .int ((14 * (x3 / 15)) + (x3 - x3 / 15 * 15))), (2, .int (x2 + 1)), (0, .ref (h 0)), (3, .int (x3))]) hx hb d_N_instructions_75 hl (by decide) rfl (fun ls hl => ?_)
          refine lv_aload_n hx hb d_N_instructions_77 rfl (lv_at hl 4 rfl) ?_
          refine va_get (D := (dC, dI)) (ci := 7) (v := .ref (h 6)) (C := R_N) (T := T_N) (N := 22) hx hb hg in_N hown hK hP 0 rfl rfl 7 (by decide) (hg _ t_625) (fun _ h9 => h9) rfl d_N_instructions_78 ?_
          refine lv_iload hx hb d_N_instructions_81 (lv_at hl 2 rfl) ?_
          obtain ⟨c7, hF⟩ := qs_in_some hF
          refine va_iald hx hb hK hP 6 5 rfl rfl c7 d_N_instructions_83 ?_
          by_cases c8 : g.1 6 ((14 * (x3 / 15)) + (x3 - x3 / 15 * 15)).toNatClampNeg = 9
          · have hF := qs_pos c8 hF
            refine lv_tableIn (tgt := 132) hx hb d_N_instructions_84 (by rw [c8]; decide) (by rw [c8]; decide) (by rw [c8]; rfl) (by decide) ?_
            refine lv_aload_n hx hb d_N_instructions_132 rfl (lv_at hl 4 rfl) ?_
            refine va_get (D := (dC, dI)) (ci := 7) (v := .ref (h 11)) (C := R_N) (T := T_N) (N := 22) hx hb hg in_N hown hK hP 0 rfl rfl 12 (by decide) (hg _ t_630) (fun _ h9 => h9) rfl d_N_instructions_133 ?_
            refine lv_aload_n hx hb d_N_instructions_136 rfl (lv_at hl 4 rfl) ?_
            refine va_get (D := (dC, dI)) (ci := 7) (v := .ref (h 7)) (C := R_N) (T := T_N) (N := 22) hx hb hg in_N hown hK hP 0 rfl rfl 8 (by decide) (hg _ t_626) (fun _ h9 => h9) rfl d_N_instructions_137 ?_
            refine lv_iload hx hb d_N_instructions_140 (lv_at hl 2 rfl) ?_
            obtain ⟨c9, hF⟩ := qs_in_some hF
            refine va_iald hx hb hK hP 7 6 rfl rfl c9 d_N_instructions_142 ?_
            obtain ⟨c10, hF⟩ := qs_in_some hF
            refine va_lald hx hb hK hP 11 10 rfl rfl c10 d_N_instructions_143 ?_
            refine lv_lconst (v := 0) hx hb d_N_instructions_144 (by decide) ?_
            refine W.lcmp hx hb d_N_instructions_145 ?_
            refine lv_if_ne (tgt := 231) hx hb d_N_instructions_146 (by decide) (fun c11 => ?_) (fun c11 => ?_)
            · have hF := qs_neg c11 hF
              exact kb_231 _ ih g (x2 + 1) (x3 + 1) H locs ls hP hD hS (lv_sub hl [4, 3, 1] rfl) hF
            · have hF := qs_pos c11 hF
              refine lv_iload hx hb d_N_instructions_149 (lv_at hl 0 rfl) ?_
              refine lv_istore (lv' := [(5, .int ((15 * (x3 / 15)) + (g.1 8 ((14 * (x3 / 15)) + (x3 - x3 / 15 * 15)).toNatClampNeg))), (6, .int ((15 * (x3 / 15)) + (g.1 8 ((14 * (x3 / 15)) + (x3 - x3 / 15 * 15)).toNatClampNeg))), (4, .int ((14 * (x3 / 15)) + (x3 - x3 / 15 * 15))), (2, .int (x2 + 1)), (0, .ref (h 0)), (3, .int (x3))]) hx hb d_N_instructions_151 hl (by decide) rfl (fun ls hl => ?_)
              refine lv_goto (tgt := 231) hx hb d_N_instructions_153 (by decide) ?_
              exact kb_231 _ ih g (x2 + 1) ((15 * (x3 / 15)) + (g.1 8 ((14 * (x3 / 15)) + (x3 - x3 / 15 * 15)).toNatClampNeg)) H locs ls hP hD hS (lv_sub hl [4, 3, 0] rfl) hF
          have hF := qs_neg c8 hF
          by_cases c12 : g.1 6 ((14 * (x3 / 15)) + (x3 - x3 / 15 * 15)).toNatClampNeg = 10
          · have hF := qs_pos c12 hF
            refine lv_tableIn (tgt := 156) hx hb d_N_instructions_84 (by rw [c12]; decide) (by rw [c12]; decide) (by rw [c12]; rfl) (by decide) ?_
            refine lv_iload hx hb d_N_instructions_156 (lv_at hl 0 rfl) ?_
            refine lv_istore (lv' := [(5, .int ((15 * (x3 / 15)) + (g.1 8 ((14 * (x3 / 15)) + (x3 - x3 / 15 * 15)).toNatClampNeg))), (6, .int ((15 * (x3 / 15)) + (g.1 8 ((14 * (x3 / 15)) + (x3 - x3 / 15 * 15)).toNatClampNeg))), (4, .int ((14 * (x3 / 15)) + (x3 - x3 / 15 * 15))), (2, .int (x2 + 1)), (0, .ref (h 0)), (3, .int (x3))]) hx hb d_N_instructions_158 hl (by decide) rfl (fun ls hl => ?_)
            refine lv_goto (tgt := 231) hx hb d_N_instructions_160 (by decide) ?_
            exact kb_231 _ ih g (x2 + 1) ((15 * (x3 / 15)) + (g.1 8 ((14 * (x3 / 15)) + (x3 - x3 / 15 * 15)).toNatClampNeg)) H locs ls hP hD hS (lv_sub hl [4, 3, 0] rfl) hF
          have hF := qs_neg c12 hF
          by_cases c13 : g.1 6 ((14 * (x3 / 15)) + (x3 - x3 / 15 * 15)).toNatClampNeg = 11
          · have hF := qs_pos c13 hF
            refine lv_tableIn (tgt := 163) hx hb d_N_instructions_84 (by rw [c13]; decide) (by rw [c13]; decide) (by rw [c13]; rfl) (by decide) ?_
            refine lv_aload_n hx hb d_N_instructions_163 rfl (lv_at hl 4 rfl) ?_
            refine va_get (D := (dC, dI)) (ci := 7) (v := .int (g.1 29 0)) (C := R_N) (T := T_N) (N := 22) hx hb hg in_N hown hK hP 0 rfl rfl 21 (by decide) (hg _ t_639) (fun _ h9 => h9) rfl d_N_instructions_164 ?_
            refine lv_iconst (v := 5) hx hb d_N_instructions_167 (by decide) ?_
            refine lv_icmp_ne (tgt := 183) hx hb d_N_instructions_168 (by decide) (fun c14 => ?_) (fun c14 => ?_)
            · have hF := qs_neg c14 hF
              refine lv_aload_n hx hb d_N_instructions_183 rfl (lv_at hl 4 rfl) ?_
              refine va_get (D := (dC, dI)) (ci := 7) (v := .ref (h 12)) (C := R_N) (T := T_N) (N := 22) hx hb hg in_N hown hK hP 0 rfl rfl 18 (by decide) (hg _ t_636) (fun _ h9 => h9) rfl d_N_instructions_184 ?_
              refine lv_aload_n hx hb d_N_instructions_187 rfl (lv_at hl 4 rfl) ?_
              refine va_get (D := (dC, dI)) (ci := 7) (v := .int (g.1 29 0)) (C := R_N) (T := T_N) (N := 22) hx hb hg in_N hown hK hP 0 rfl rfl 21 (by decide) (hg _ t_639) (fun _ h9 => h9) rfl d_N_instructions_188 ?_
              refine lv_iload hx hb d_N_instructions_191 (lv_at hl 1 rfl) ?_
              obtain ⟨c15, hF⟩ := qs_in_some hF
              refine va_iast hx hb hK hP hD hS 12 11 rfl rfl c15 d_N_instructions_193 (fun H locs hP hD hS => ?_)
              obtain ⟨u16, hu16, hF⟩ := qs_st_some hF
              have hP : va_P (dC, dI) vwCl (ms_W h c u16) H := by rw [hu16]; exact hP
              have hD : va_D A (ms_W h c u16) := by rw [hu16]; exact hD
              clear hu16
              refine lv_aload_n hx hb d_N_instructions_194 rfl (lv_at hl 4 rfl) ?_
              refine lv_dup hx hb d_N_instructions_195 rfl ?_
              refine va_get (D := (dC, dI)) (ci := 7) (v := .int (u16.1 29 0)) (C := R_N) (T := T_N) (N := 22) hx hb hg in_N hown hK hP 0 rfl rfl 21 (by decide) (hg _ t_639) (fun _ h9 => h9) rfl d_N_instructions_196 ?_
              refine lv_iconst (v := 1) hx hb d_N_instructions_199 (by decide) ?_
              refine lv_iadd hx hb d_N_instructions_200 ?_
              refine va_put (D := (dC, dI)) (ci := 7) (v := .int ((u16.1 29 0) + 1)) (ty := .int) (C := R_N) (T := T_N) (N := 22) hx hb hg in_N ty_N ty_N_ok nm_N hown hK hP hD hS 0 rfl rfl 21 (by decide) (hg _ t_639) (fun _ h9 => h9) rfl (by decide +kernel) rfl rfl (Nat.le_of_ble_eq_true rfl) d_N_instructions_201 (fun H locs hP hD hS => ?_)
              obtain ⟨u17, hu17, hF⟩ := qs_st_some hF
              have hP : va_P (dC, dI) vwCl (ms_W h c u17) H := by rw [hu17]; exact hP
              have hD : va_D A (ms_W h c u17) := by rw [hu17]; exact hD
              clear hu17
              refine lv_bipush (v := 15) hx hb d_N_instructions_204 (by decide) ?_
              refine lv_aload_n hx hb d_N_instructions_206 rfl (lv_at hl 4 rfl) ?_
              refine va_get (D := (dC, dI)) (ci := 7) (v := .ref (h 7)) (C := R_N) (T := T_N) (N := 22) hx hb hg in_N hown hK hP 0 rfl rfl 8 (by decide) (hg _ t_626) (fun _ h9 => h9) rfl d_N_instructions_207 ?_
              refine lv_iload hx hb d_N_instructions_210 (lv_at hl 2 rfl) ?_
              obtain ⟨c18, hF⟩ := qs_in_some hF
              refine va_iald hx hb hK hP 7 6 rfl rfl c18 d_N_instructions_212 ?_
              refine lv_imul hx hb d_N_instructions_213 ?_
              refine lv_istore (lv' := [(5, .int (15 * (u17.1 7 ((14 * (x3 / 15)) + (x3 - x3 / 15 * 15)).toNatClampNeg))), (6, .int ((15 * (x3 / 15)) + (g.1 8 ((14 * (x3 / 15)) + (x3 - x3 / 15 * 15)).toNatClampNeg))), (4, .int ((14 * (x3 / 15)) + (x3 - x3 / 15 * 15))), (2, .int (x2 + 1)), (0, .ref (h 0)), (3, .int (x3))]) hx hb d_N_instructions_214 hl (by decide) rfl (fun ls hl => ?_)
              refine lv_goto (tgt := 231) hx hb d_N_instructions_216 (by decide) ?_
              exact kb_231 _ ih u17 (x2 + 1) (15 * (u17.1 7 ((14 * (x3 / 15)) + (x3 - x3 / 15 * 15)).toNatClampNeg)) H locs ls hP hD hS (lv_sub hl [4, 3, 0] rfl) hF
            · have hF := qs_pos c14 hF
              refine lv_aload_n hx hb d_N_instructions_171 rfl (lv_at hl 4 rfl) ?_
              refine lv_dup hx hb d_N_instructions_172 rfl ?_
              refine va_get (D := (dC, dI)) (ci := 7) (v := .int (g.1 24 0)) (C := R_N) (T := T_N) (N := 22) hx hb hg in_N hown hK hP 0 rfl rfl 15 (by decide) (hg _ t_633) (fun _ h9 => h9) rfl d_N_instructions_173 ?_
              refine lv_iconst (v := 1) hx hb d_N_instructions_176 (by decide) ?_
              refine lv_iadd hx hb d_N_instructions_177 ?_
              refine va_put (D := (dC, dI)) (ci := 7) (v := .int ((g.1 24 0) + 1)) (ty := .int) (C := R_N) (T := T_N) (N := 22) hx hb hg in_N ty_N ty_N_ok nm_N hown hK hP hD hS 0 rfl rfl 15 (by decide) (hg _ t_633) (fun _ h9 => h9) rfl (by decide +kernel) rfl rfl (Nat.le_of_ble_eq_true rfl) d_N_instructions_178 (fun H locs hP hD hS => ?_)
              obtain ⟨u19, hu19, hF⟩ := qs_st_some hF
              have hP : va_P (dC, dI) vwCl (ms_W h c u19) H := by rw [hu19]; exact hP
              have hD : va_D A (ms_W h c u19) := by rw [hu19]; exact hD
              clear hu19
              refine lv_iload_n hx hb d_N_instructions_181 rfl (lv_at hl 3 rfl) ?_
              obtain ⟨h8, h9⟩ := qs_ret hF
              exact W.iret (v := x2 + 1) hx hb hr (fun t ht hW => ⟨⟨(x2 + 1), u19, rfl, ⟨h8, h9⟩, by rw [ht]; exact hP, va_K.moved hW.alike hK, hD⟩, hS.F ht⟩) hS.2.2 d_N_instructions_182
          have hF := qs_neg c13 hF
          by_cases c20 : g.1 6 ((14 * (x3 / 15)) + (x3 - x3 / 15 * 15)).toNatClampNeg = 12
          · have hF := qs_pos c20 hF
            refine lv_tableIn (tgt := 225) hx hb d_N_instructions_84 (by rw [c20]; decide) (by rw [c20]; decide) (by rw [c20]; rfl) (by decide) ?_
            refine lv_aload_n hx hb d_N_instructions_225 rfl (lv_at hl 4 rfl) ?_
            refine lv_iload hx hb d_N_instructions_226 (lv_at hl 2 rfl) ?_
            obtain ⟨r21, u22, hX, hF⟩ := qs_bn_some hF
            refine qs_cv (Wd := ms_W h c) (isC := [0, 1, 2, 3, 4, 5, 6, 7, 8, 9, 10, 11, 12]) (va_runV (own := "QuakeServerModel") (C := "QuakeServerModel") (As := [.int ((14 * (x3 / 15)) + (x3 - x3 / 15 * 15))]) (rest := []) ⟨hx, hb, hml, hown, hg⟩ (c_N_instruction l dC dI h c H.size g ((14 * (x3 / 15)) + (x3 - x3 / 15 * 15))  u22 hX) (cwV 1 hg (qs_gV t_769 t_771 tp_23 t_8 t_772) rfl rfl rfl (by decide +kernel) ⟨Nat.le_of_ble_eq_true rfl, Nat.le_of_ble_eq_true rfl⟩) ⟨qs_blind, va_recv hK hP (ci := 7) (q0 := 0) rfl rfl, fun U hU hW => ⟨rfl, by rw [hU], by rw [hU]; exact hP, va_K.moved hW.alike hK, hD.weaken (fun _ _ _ _ => trivial), hNs.warm hW⟩⟩ rfl rfl hl.1 rfl (lv_room (Nat.le_of_ble_eq_true rfl)) d_N_instructions_228 ⟨Nat.le_of_ble_eq_true rfl, Nat.le_of_ble_eq_true rfl⟩) rfl hP hD hS hA (fun H locs hP hD hS => ?_)
            exact kb_231 _ ih u22 (x2 + 1) (x3 + 1) H locs ls hP hD hS (lv_sub hl [4, 3, 1] rfl) hF
          have hF := qs_neg c20 hF
          by_cases c23 : g.1 6 ((14 * (x3 / 15)) + (x3 - x3 / 15 * 15)).toNatClampNeg = 13
          · have hF := qs_pos c23 hF
            refine lv_tableIn (tgt := 225) hx hb d_N_instructions_84 (by rw [c23]; decide) (by rw [c23]; decide) (by rw [c23]; rfl) (by decide) ?_
            refine lv_aload_n hx hb d_N_instructions_225 rfl (lv_at hl 4 rfl) ?_
            refine lv_iload hx hb d_N_instructions_226 (lv_at hl 2 rfl) ?_
            obtain ⟨r24, u25, hX, hF⟩ := qs_bn_some hF
            refine qs_cv (Wd := ms_W h c) (isC := [0, 1, 2, 3, 4, 5, 6, 7, 8, 9, 10, 11, 12]) (va_runV (own := "QuakeServerModel") (C := "QuakeServerModel") (As := [.int ((14 * (x3 / 15)) + (x3 - x3 / 15 * 15))]) (rest := []) ⟨hx, hb, hml, hown, hg⟩ (c_N_instruction l dC dI h c H.size g ((14 * (x3 / 15)) + (x3 - x3 / 15 * 15))  u25 hX) (cwV 1 hg (qs_gV t_769 t_771 tp_23 t_8 t_772) rfl rfl rfl (by decide +kernel) ⟨Nat.le_of_ble_eq_true rfl, Nat.le_of_ble_eq_true rfl⟩) ⟨qs_blind, va_recv hK hP (ci := 7) (q0 := 0) rfl rfl, fun U hU hW => ⟨rfl, by rw [hU], by rw [hU]; exact hP, va_K.moved hW.alike hK, hD.weaken (fun _ _ _ _ => trivial), hNs.warm hW⟩⟩ rfl rfl hl.1 rfl (lv_room (Nat.le_of_ble_eq_true rfl)) d_N_instructions_228 ⟨Nat.le_of_ble_eq_true rfl, Nat.le_of_ble_eq_true rfl⟩) rfl hP hD hS hA (fun H locs hP hD hS => ?_)
            exact kb_231 _ ih u25 (x2 + 1) (x3 + 1) H locs ls hP hD hS (lv_sub hl [4, 3, 1] rfl) hF
          have hF := qs_neg c23 hF
          by_cases c26 : g.1 6 ((14 * (x3 / 15)) + (x3 - x3 / 15 * 15)).toNatClampNeg = 14
          · have hF := qs_pos c26 hF
            refine lv_tableIn (tgt := 225) hx hb d_N_instructions_84 (by rw [c26]; decide) (by rw [c26]; decide) (by rw [c26]; rfl) (by decide) ?_
            refine lv_aload_n hx hb d_N_instructions_225 rfl (lv_at hl 4 rfl) ?_
            refine lv_iload hx hb d_N_instructions_226 (lv_at hl 2 rfl) ?_
            obtain ⟨r27, u28, hX, hF⟩ := qs_bn_some hF
            refine qs_cv (Wd := ms_W h c) (isC := [0, 1, 2, 3, 4, 5, 6, 7, 8, 9, 10, 11, 12]) (va_runV (own := "QuakeServerModel") (C := "QuakeServerModel") (As := [.int ((14 * (x3 / 15)) + (x3 - x3 / 15 * 15))]) (rest := []) ⟨hx, hb, hml, hown, hg⟩ (c_N_instruction l dC dI h c H.size g ((14 * (x3 / 15)) + (x3 - x3 / 15 * 15))  u28 hX) (cwV 1 hg (qs_gV t_769 t_771 tp_23 t_8 t_772) rfl rfl rfl (by decide +kernel) ⟨Nat.le_of_ble_eq_true rfl, Nat.le_of_ble_eq_true rfl⟩) ⟨qs_blind, va_recv hK hP (ci := 7) (q0 := 0) rfl rfl, fun U hU hW => ⟨rfl, by rw [hU], by rw [hU]; exact hP, va_K.moved hW.alike hK, hD.weaken (fun _ _ _ _ => trivial), hNs.warm hW⟩⟩ rfl rfl hl.1 rfl (lv_room (Nat.le_of_ble_eq_true rfl)) d_N_instructions_228 ⟨Nat.le_of_ble_eq_true rfl, Nat.le_of_ble_eq_true rfl⟩) rfl hP hD hS hA (fun H locs hP hD hS => ?_)
            exact kb_231 _ ih u28 (x2 + 1) (x3 + 1) H locs ls hP hD hS (lv_sub hl [4, 3, 1] rfl) hF
          have hF := qs_neg c26 hF
          by_cases c29 : g.1 6 ((14 * (x3 / 15)) + (x3 - x3 / 15 * 15)).toNatClampNeg = 15
          · have hF := qs_pos c29 hF
            refine lv_tableIn (tgt := 225) hx hb d_N_instructions_84 (by rw [c29]; decide) (by rw [c29]; decide) (by rw [c29]; rfl) (by decide) ?_
            refine lv_aload_n hx hb d_N_instructions_225 rfl (lv_at hl 4 rfl) ?_
            refine lv_iload hx hb d_N_instructions_226 (lv_at hl 2 rfl) ?_
            obtain ⟨r30, u31, hX, hF⟩ := qs_bn_some hF
            refine qs_cv (Wd := ms_W h c) (isC := [0, 1, 2, 3, 4, 5, 6, 7, 8, 9, 10, 11, 12]) (va_runV (own := "QuakeServerModel") (C := "QuakeServerModel") (As := [.int ((14 * (x3 / 15)) + (x3 - x3 / 15 * 15))]) (rest := []) ⟨hx, hb, hml, hown, hg⟩ (c_N_instruction l dC dI h c H.size g ((14 * (x3 / 15)) + (x3 - x3 / 15 * 15))  u31 hX) (cwV 1 hg (qs_gV t_769 t_771 tp_23 t_8 t_772) rfl rfl rfl (by decide +kernel) ⟨Nat.le_of_ble_eq_true rfl, Nat.le_of_ble_eq_true rfl⟩) ⟨qs_blind, va_recv hK hP (ci := 7) (q0 := 0) rfl rfl, fun U hU hW => ⟨rfl, by rw [hU], by rw [hU]; exact hP, va_K.moved hW.alike hK, hD.weaken (fun _ _ _ _ => trivial), hNs.warm hW⟩⟩ rfl rfl hl.1 rfl (lv_room (Nat.le_of_ble_eq_true rfl)) d_N_instructions_228 ⟨Nat.le_of_ble_eq_true rfl, Nat.le_of_ble_eq_true rfl⟩) rfl hP hD hS hA (fun H locs hP hD hS => ?_)
            exact kb_231 _ ih u31 (x2 + 1) (x3 + 1) H locs ls hP hD hS (lv_sub hl [4, 3, 1] rfl) hF
          have hF := qs_neg c29 hF
          by_cases c32 : g.1 6 ((14 * (x3 / 15)) + (x3 - x3 / 15 * 15)).toNatClampNeg = 16
          · have hF := qs_pos c32 hF
            refine lv_tableIn (tgt := 219) hx hb d_N_instructions_84 (by rw [c32]; decide) (by rw [c32]; decide) (by rw [c32]; rfl) (by decide) ?_
            refine lv_iconst (v := (-1)) hx hb d_N_instructions_219 (by decide) ?_
            refine lv_istore (lv' := [(5, .int ((-1))), (6, .int ((15 * (x3 / 15)) + (g.1 8 ((14 * (x3 / 15)) + (x3 - x3 / 15 * 15)).toNatClampNeg))), (4, .int ((14 * (x3 / 15)) + (x3 - x3 / 15 * 15))), (2, .int (x2 + 1)), (0, .ref (h 0)), (3, .int (x3))]) hx hb d_N_instructions_220 hl (by decide) rfl (fun ls hl => ?_)
            refine lv_goto (tgt := 231) hx hb d_N_instructions_222 (by decide) ?_
            exact kb_231 _ ih g (x2 + 1) ((-1)) H locs ls hP hD hS (lv_sub hl [4, 3, 0] rfl) hF
          have hF := qs_neg c32 hF
          refine lv_tableOut (tgt := 225) hx hb d_N_instructions_84 (by have := lv_neT (a := 9) c8 (by decide); have := lv_neT (a := 10) c12 (by decide); have := lv_neT (a := 11) c13 (by decide); have := lv_neT (a := 12) c20 (by decide); have := lv_neT (a := 13) c23 (by decide); have := lv_neT (a := 14) c26 (by decide); have := lv_neT (a := 15) c29 (by decide); have := lv_neT (a := 16) c32 (by decide); omega) (by decide) ?_
          refine lv_aload_n hx hb d_N_instructions_225 rfl (lv_at hl 4 rfl) ?_
          refine lv_iload hx hb d_N_instructions_226 (lv_at hl 2 rfl) ?_
          obtain ⟨r33, u34, hX, hF⟩ := qs_bn_some hF
          refine qs_cv (Wd := ms_W h c) (isC := [0, 1, 2, 3, 4, 5, 6, 7, 8, 9, 10, 11, 12]) (va_runV (own := "QuakeServerModel") (C := "QuakeServerModel") (As := [.int ((14 * (x3 / 15)) + (x3 - x3 / 15 * 15))]) (rest := []) ⟨hx, hb, hml, hown, hg⟩ (c_N_instruction l dC dI h c H.size g ((14 * (x3 / 15)) + (x3 - x3 / 15 * 15))  u34 hX) (cwV 1 hg (qs_gV t_769 t_771 tp_23 t_8 t_772) rfl rfl rfl (by decide +kernel) ⟨Nat.le_of_ble_eq_true rfl, Nat.le_of_ble_eq_true rfl⟩) ⟨qs_blind, va_recv hK hP (ci := 7) (q0 := 0) rfl rfl, fun U hU hW => ⟨rfl, by rw [hU], by rw [hU]; exact hP, va_K.moved hW.alike hK, hD.weaken (fun _ _ _ _ => trivial), hNs.warm hW⟩⟩ rfl rfl hl.1 rfl (lv_room (Nat.le_of_ble_eq_true rfl)) d_N_instructions_228 ⟨Nat.le_of_ble_eq_true rfl, Nat.le_of_ble_eq_true rfl⟩) rfl hP hD hS hA (fun H locs hP hD hS => ?_)
          exact kb_231 _ ih u34 (x2 + 1) (x3 + 1) H locs ls hP hD hS (lv_sub hl [4, 3, 1] rfl) hF
        · have hF := qs_pos c5 hF
          refine lv_aload_n hx hb d_N_instructions_26 rfl (lv_at hl 0 rfl) ?_
          refine lv_dup hx hb d_N_instructions_27 rfl ?_
          refine va_get (D := (dC, dI)) (ci := 7) (v := .int (g.1 24 0)) (C := R_N) (T := T_N) (N := 22) hx hb hg in_N hown hK hP 0 rfl rfl 15 (by decide) (hg _ t_633) (fun _ h9 => h9) rfl d_N_instructions_28 ?_
          refine lv_iconst (v := 1) hx hb d_N_instructions_31 (by decide) ?_
          refine lv_iadd hx hb d_N_instructions_32 ?_
          refine va_put (D := (dC, dI)) (ci := 7) (v := .int ((g.1 24 0) + 1)) (ty := .int) (C := R_N) (T := T_N) (N := 22) hx hb hg in_N ty_N ty_N_ok nm_N hown hK hP hD hS 0 rfl rfl 15 (by decide) (hg _ t_633) (fun _ h9 => h9) rfl (by decide +kernel) rfl rfl (Nat.le_of_ble_eq_true rfl) d_N_instructions_33 (fun H locs hP hD hS => ?_)
          obtain ⟨u35, hu35, hF⟩ := qs_st_some hF
          have hP : va_P (dC, dI) vwCl (ms_W h c u35) H := by rw [hu35]; exact hP
          have hD : va_D A (ms_W h c u35) := by rw [hu35]; exact hD
          clear hu35
          refine lv_iload_n hx hb d_N_instructions_36 rfl (lv_at hl 1 rfl) ?_
          obtain ⟨h8, h9⟩ := qs_ret hF
          exact W.iret (v := x2) hx hb hr (fun t ht hW => ⟨⟨x2, u35, rfl, ⟨h8, h9⟩, by rw [ht]; exact hP, va_K.moved hW.alike hK, hD⟩, hS.F ht⟩) hS.2.2 d_N_instructions_37
  have hl := lv_entry ([.ref (h 0), .int a1] : List Value) (n := 7) (Nat.le_of_ble_eq_true rfl)
  rw [lg_entry_eq]
  generalize (lg_sl ([.ref (h 0), .int a1] : List Value) ++ List.replicate (7 - (lg_sl ([.ref (h 0), .int a1] : List Value)).length) Slot.unset).toArray = ls at hl ⊢
  have hl : lv_has ls 7 [(0, .ref (h 0)), (1, .int (a1))] := hl
  unfold f_N_instructions at hF
  obtain ⟨H, hHe⟩ : ∃ H, H = s.heap := ⟨_, rfl⟩
  obtain ⟨locs, hLe⟩ : ∃ L : List Loc, L = [] := ⟨_, rfl⟩
  rw [← hHe] at hP ⊢
  rw [← hLe]
  have hS : va_S A s.heap H locs := by rw [hHe, hLe]; exact hS
  refine lv_aload_n hx hb d_N_instructions_0 rfl (lv_at hl 0 rfl) ?_
  refine lv_iconst (v := 0) hx hb d_N_instructions_1 (by decide) ?_
  refine va_put (D := (dC, dI)) (ci := 7) (v := .int (0)) (ty := .int) (C := R_N) (T := T_N) (N := 22) hx hb hg in_N ty_N ty_N_ok nm_N hown hK hP hD hS 0 rfl rfl 21 (by decide) (hg _ t_639) (fun _ h9 => h9) rfl (by decide +kernel) rfl rfl (Nat.le_of_ble_eq_true rfl) d_N_instructions_2 (fun H locs hP hD hS => ?_)
  obtain ⟨u1, hu1, hF⟩ := qs_st_some hF
  have hP : va_P (dC, dI) vwCl (ms_W h c u1) H := by rw [hu1]; exact hP
  have hD : va_D A (ms_W h c u1) := by rw [hu1]; exact hD
  clear hu1
  refine lv_iconst (v := 0) hx hb d_N_instructions_5 (by decide) ?_
  refine lv_istore_n (lv' := [(2, .int (0)), (0, .ref (h 0)), (1, .int (a1))]) hx hb d_N_instructions_6 rfl hl (by decide) rfl (fun ls hl => ?_)
  refine lv_aload_n hx hb d_N_instructions_7 rfl (lv_at hl 1 rfl) ?_
  refine lv_bipush (v := 15) hx hb d_N_instructions_8 (by decide) ?_
  refine lv_iload_n hx hb d_N_instructions_10 rfl (lv_at hl 2 rfl) ?_
  refine lv_imul hx hb d_N_instructions_11 ?_
  obtain ⟨r2, u3, hX, hF⟩ := qs_bn_some hF
  refine qs_ci (Wd := ms_W h c) (isC := [0, 1, 2, 3, 4, 5, 6, 7, 8, 9, 10, 11, 12]) (va_runV (own := "QuakeServerModel") (C := "QuakeServerModel") (As := [.int (15 * a1)]) (rest := []) ⟨hx, hb, hml, hown, hg⟩ (c_N_unwound l dC dI h c H.size u1 (15 * a1) r2 u3 hX) (cwV 1 hg (qs_gV t_765 t_767 tp_22 t_8 t_768) rfl rfl rfl (by decide +kernel) ⟨Nat.le_of_ble_eq_true rfl, Nat.le_of_ble_eq_true rfl⟩) ⟨qs_blind, va_recv hK hP (ci := 7) (q0 := 0) rfl rfl, fun U hU hW => ⟨rfl, by rw [hU], by rw [hU]; exact hP, va_K.moved hW.alike hK, hD.weaken (fun _ _ _ _ => trivial), hNs.warm hW⟩⟩ rfl rfl hl.1 rfl (lv_room (Nat.le_of_ble_eq_true rfl)) d_N_instructions_12 ⟨Nat.le_of_ble_eq_true rfl, Nat.le_of_ble_eq_true rfl⟩) rfl hP hD hS hA (fun H locs hP hD hS => ?_)
  refine lv_istore_n (lv' := [(3, .int (r2)), (2, .int (0)), (0, .ref (h 0)), (1, .int (a1))]) hx hb d_N_instructions_15 rfl hl (by decide) rfl (fun ls hl => ?_)
  exact kb_16 200 u3 (0) (r2) H locs ls hP hD hS (lv_sub hl [2, 1, 0] rfl) hF

theorem d_N_perform_0 : decode b_N_perform 0 = .ok (.iload 6, 2) := by decide +kernel
theorem d_N_perform_2 : decode b_N_perform 2 = .ok (.ifCond .ne 5, 3) := by decide +kernel
theorem d_N_perform_5 : decode b_N_perform 5 = .ok (.iconst 0, 1) := by decide +kernel
theorem d_N_perform_6 : decode b_N_perform 6 = .ok (.ireturn, 1) := by decide +kernel
theorem d_N_perform_7 : decode b_N_perform 7 = .ok (.aload_n 0, 1) := by decide +kernel
theorem d_N_perform_8 : decode b_N_perform 8 = .ok (.getfield 42, 3) := by decide +kernel
theorem d_N_perform_11 : decode b_N_perform 11 = .ok (.bipush 20, 2) := by decide +kernel
theorem d_N_perform_13 : decode b_N_perform 13 = .ok (.laload, 1) := by decide +kernel
theorem d_N_perform_14 : decode b_N_perform 14 = .ok (.lstore 7, 2) := by decide +kernel
theorem d_N_perform_16 : decode b_N_perform 16 = .ok (.aload_n 0, 1) := by decide +kernel
theorem d_N_perform_17 : decode b_N_perform 17 = .ok (.getfield 42, 3) := by decide +kernel
theorem d_N_perform_20 : decode b_N_perform 20 = .ok (.bipush 21, 2) := by decide +kernel
theorem d_N_perform_22 : decode b_N_perform 22 = .ok (.laload, 1) := by decide +kernel
theorem d_N_perform_23 : decode b_N_perform 23 = .ok (.lstore 9, 2) := by decide +kernel
theorem d_N_perform_25 : decode b_N_perform 25 = .ok (.aload_n 0, 1) := by decide +kernel
theorem d_N_perform_26 : decode b_N_perform 26 = .ok (.getfield 42, 3) := by decide +kernel
theorem d_N_perform_29 : decode b_N_perform 29 = .ok (.bipush 20, 2) := by decide +kernel
theorem d_N_perform_31 : decode b_N_perform 31 = .ok (.ldc2_w 59, 3) := by decide +kernel
theorem d_N_perform_34 : decode b_N_perform 34 = .ok (.lload_n 2, 1) := by decide +kernel
theorem d_N_perform_35 : decode b_N_perform 35 = .ok (.lmul, 1) := by decide +kernel
theorem d_N_perform_36 : decode b_N_perform 36 = .ok (.lastore, 1) := by decide +kernel
theorem d_N_perform_37 : decode b_N_perform 37 = .ok (.aload_n 0, 1) := by decide +kernel
theorem d_N_perform_38 : decode b_N_perform 38 = .ok (.getfield 42, 3) := by decide +kernel
theorem d_N_perform_41 : decode b_N_perform 41 = .ok (.bipush 21, 2) := by decide +kernel
theorem d_N_perform_43 : decode b_N_perform 43 = .ok (.ldc2_w 59, 3) := by decide +kernel
theorem d_N_perform_46 : decode b_N_perform 46 = .ok (.lload 4, 2) := by decide +kernel
theorem d_N_perform_48 : decode b_N_perform 48 = .ok (.lmul, 1) := by decide +kernel
theorem d_N_perform_49 : decode b_N_perform 49 = .ok (.lastore, 1) := by decide +kernel
theorem d_N_perform_50 : decode b_N_perform 50 = .ok (.aload_n 0, 1) := by decide +kernel
theorem d_N_perform_51 : decode b_N_perform 51 = .ok (.getfield 42, 3) := by decide +kernel
theorem d_N_perform_54 : decode b_N_perform 54 = .ok (.bipush 22, 2) := by decide +kernel
theorem d_N_perform_56 : decode b_N_perform 56 = .ok (.aload_n 0, 1) := by decide +kernel
theorem d_N_perform_57 : decode b_N_perform 57 = .ok (.getfield 146, 3) := by decide +kernel
theorem d_N_perform_60 : decode b_N_perform 60 = .ok (.lastore, 1) := by decide +kernel
theorem d_N_perform_61 : decode b_N_perform 61 = .ok (.aload_n 0, 1) := by decide +kernel
theorem d_N_perform_62 : decode b_N_perform 62 = .ok (.iload_n 1, 1) := by decide +kernel
theorem d_N_perform_63 : decode b_N_perform 63 = .ok (.invokevirtual 150, 3) := by decide +kernel
theorem d_N_perform_66 : decode b_N_perform 66 = .ok (.istore 11, 2) := by decide +kernel
theorem d_N_perform_68 : decode b_N_perform 68 = .ok (.iload 11, 2) := by decide +kernel
theorem d_N_perform_70 : decode b_N_perform 70 = .ok (.ifCond .le 13, 3) := by decide +kernel
theorem d_N_perform_73 : decode b_N_perform 73 = .ok (.aload_n 0, 1) := by decide +kernel
theorem d_N_perform_74 : decode b_N_perform 74 = .ok (.dup, 1) := by decide +kernel
theorem d_N_perform_75 : decode b_N_perform 75 = .ok (.getfield 153, 3) := by decide +kernel
theorem d_N_perform_78 : decode b_N_perform 78 = .ok (.iconst 1, 1) := by decide +kernel
theorem d_N_perform_79 : decode b_N_perform 79 = .ok (.iadd, 1) := by decide +kernel
theorem d_N_perform_80 : decode b_N_perform 80 = .ok (.putfield 153, 3) := by decide +kernel
theorem d_N_perform_83 : decode b_N_perform 83 = .ok (.aload_n 0, 1) := by decide +kernel
theorem d_N_perform_84 : decode b_N_perform 84 = .ok (.getfield 42, 3) := by decide +kernel
theorem d_N_perform_87 : decode b_N_perform 87 = .ok (.bipush 20, 2) := by decide +kernel
theorem d_N_perform_89 : decode b_N_perform 89 = .ok (.lload 7, 2) := by decide +kernel
theorem d_N_perform_91 : decode b_N_perform 91 = .ok (.lastore, 1) := by decide +kernel
theorem d_N_perform_92 : decode b_N_perform 92 = .ok (.aload_n 0, 1) := by decide +kernel
theorem d_N_perform_93 : decode b_N_perform 93 = .ok (.getfield 42, 3) := by decide +kernel
theorem d_N_perform_96 : decode b_N_perform 96 = .ok (.bipush 21, 2) := by decide +kernel
theorem d_N_perform_98 : decode b_N_perform 98 = .ok (.lload 9, 2) := by decide +kernel
theorem d_N_perform_100 : decode b_N_perform 100 = .ok (.lastore, 1) := by decide +kernel
theorem d_N_perform_101 : decode b_N_perform 101 = .ok (.iload 11, 2) := by decide +kernel
theorem d_N_perform_103 : decode b_N_perform 103 = .ok (.ireturn, 1) := by decide +kernel
def f_N_perform_83  (g : Sm) (x7 : Int64) (x9 : Int64) (x11 : Int32) : Option (Int32 × Sm) := (qs_in (20) 24 (qs_st (qm_la g 11 (20 : Int32).toNatClampNeg (x7)) fun u15 => (qs_in (21) 24 (qs_st (qm_la u15 11 (21 : Int32).toNatClampNeg (x9)) fun u17 => (some (x11, u17))))))
def f_N_perform (g : Sm) (a1 : Int32) (a2 : Int64) (a3 : Int64) (a4 : Int32) : Option (Int32 × Sm) := (if a4 = 0 then (some (0, g)) else (qs_in (20) 24 (qs_in (21) 24 (qs_in (20) 24 (qs_st (qm_la g 11 (20 : Int32).toNatClampNeg ((8 : Int64) * a2)) fun u5 => (qs_in (21) 24 (qs_st (qm_la u5 11 (21 : Int32).toNatClampNeg ((8 : Int64) * a3)) fun u7 => (qs_in (22) 24 (qs_st (qm_la u7 11 (22 : Int32).toNatClampNeg (u7.2 22 0)) fun u9 => (qs_bn (f_N_instructions u9 (a1)) fun r10 u11 => (if r10 ≤ 0 then (f_N_perform_83 u11 (g.2 11 (20 : Int32).toNatClampNeg) (g.2 11 (21 : Int32).toNatClampNeg) (r10)) else (qs_st (qm_i u11 25 ((u11.1 25 0) + 1)) fun u13 => (f_N_perform_83 u13 (g.2 11 (20 : Int32).toNatClampNeg) (g.2 11 (21 : Int32).toNatClampNeg) (r10))))))))))))))
set_option maxHeartbeats 4000000 in
set_option maxRecDepth 100000 in
theorem c_N_perform (l : Launch) (dC : Nat → ClassId) (dI : Nat → Nat → Nat) (h : Nat → Nat) (c : Nat → ClassId) (sz : Nat) (g : Sm) (a1 : Int32) (a2 : Int64) (a3 : Int64) (a4 : Int32) (r0 : Int32) (u0 : Sm) (hF : f_N_perform g a1 a2 a3 a4 = some (r0, u0)) : Met l y_N_perform (qs_ws y_N_perform b_N_perform 12 (some .int)) ({ frames := 5, cells := 0, slots := 0, locals := 121 } : Room) (va_Pc ([.ref (h 0), .int a1, .long a2, .long a3, .int a4] : List Value) (fun U => U.heap.size = sz ∧ va_P (dC, dI) vwCl (ms_W h c g) U.heap ∧ va_K (dC, dI) vwCl (ms_T c) U ∧ va_D (fun _ => True) (ms_W h c g) ∧ qs_N U)) (va_Qi (fun (r : Int32) (u : Sm) => r = r0 ∧ u = u0) (ms_at dC dI h c (va_A (ms_W h c g) sz)) (va_A (ms_W h c g) sz)) 0 0 (va_A (ms_W h c g) sz) := by
  refine Met.ofW (cc := b_N_perform) (maxL := 12) (ret := (some .int)) (by decide +kernel) rfl ?_
  intro p e s m args below meth cd s₁ B hml hv
  obtain ⟨rfl, hsz, hP, hK, hD0, hNs⟩ := hv
  have hx := B.exec
  have hb := B.bytes
  have hr := B.returns
  have hts := atoms_spec (ws := (qs_ws y_N_perform b_N_perform 12 (some .int))) B.pre
  have hg : ∀ w ∈ qs_gt, w.before _ s = true := fun w h => hts w (List.mem_cons_of_mem _ h)
  have hown : s.vm.findClass R_N = some m.cls := findClass_of_methodNamed B.named
  have hlocks := B.notSynchronized
  subst hsz
  have hD := hD0.self (sz := s.heap.size)
  generalize hAe : va_A (ms_W h c g) s.heap.size = A at hD ⊢
  have hA : ∀ q : Nat, s.heap.size ≤ q → A q := fun q h => by rw [← hAe]; exact Or.inr h
  have hS : va_S A s.heap s.heap [] := va_S.rf
  have kb_83 : ∀ (g : Sm) (x7 : Int64) (x9 : Int64) (x11 : Int32) (H : Heap) (locs : List Loc) (ls : Array Slot), va_P (dC, dI) vwCl (ms_W h c g) H → va_D A (ms_W h c g) → va_S A s.heap H locs → lv_has ls 12 [(0, .ref (h 0)), (7, .long (x7)), (9, .long (x9)), (11, .int (x11))] → f_N_perform_83  g x7 x9 x11 = some (r0, u0) → W p l e (headSpec (qs_ws y_N_perform b_N_perform 12 (some .int)) ({ frames := 5, cells := 0, slots := 0, locals := 121 } : Room)).room s m ([.ref (h 0), .int a1, .long a2, .long a3, .int a4] : List Value).toArray below meth cd H locs 0 0 (MQ below (va_Qi (fun (r : Int32) (u : Sm) => r = r0 ∧ u = u0) (ms_at dC dI h c A) A) ([.ref (h 0), .int a1, .long a2, .long a3, .int a4] : List Value).toArray s 0 0 A) (F0 m 83 ls []) := by
    intro g x7 x9 x11 H locs ls hP hD hS hl hF
    unfold f_N_perform_83 at hF
    refine lv_aload_n hx hb d_N_perform_83 rfl (lv_at hl 0 rfl) ?_
    refine va_get (D := (dC, dI)) (ci := 7) (v := .ref (h 11)) (C := R_N) (T := T_N) (N := 22) hx hb hg in_N hown hK hP 0 rfl rfl 12 (by decide) (hg _ t_630) (fun _ h9 => h9) rfl d_N_perform_84 ?_
    refine lv_bipush (v := 20) hx hb d_N_perform_87 (by decide) ?_
    refine lv_lload hx hb d_N_perform_89 (lv_at hl 1 rfl) ?_
    obtain ⟨c14, hF⟩ := qs_in_some hF
    refine va_last hx hb hK hP hD hS 11 10 rfl rfl c14 d_N_perform_91 (fun H locs hP hD hS => ?_)
    obtain ⟨u15, hu15, hF⟩ := qs_st_some hF
    have hP : va_P (dC, dI) vwCl (ms_W h c u15) H := by rw [hu15]; exact hP
    have hD : va_D A (ms_W h c u15) := by rw [hu15]; exact hD
    clear hu15
    refine lv_aload_n hx hb d_N_perform_92 rfl (lv_at hl 0 rfl) ?_
    refine va_get (D := (dC, dI)) (ci := 7) (v := .ref (h 11)) (C := R_N) (T := T_N) (N := 22) hx hb hg in_N hown hK hP 0 rfl rfl 12 (by decide) (hg _ t_630) (fun _ h9 => h9) rfl d_N_perform_93 ?_
    refine lv_bipush (v := 21) hx hb d_N_perform_96 (by decide) ?_
    refine lv_lload hx hb d_N_perform_98 (lv_at hl 2 rfl) ?_
    obtain ⟨c16, hF⟩ := qs_in_some hF
    refine va_last hx hb hK hP hD hS 11 10 rfl rfl c16 d_N_perform_100 (fun H locs hP hD hS => ?_)
    obtain ⟨u17, hu17, hF⟩ := qs_st_some hF
    have hP : va_P (dC, dI) vwCl (ms_W h c u17) H := by rw [hu17]; exact hP
    have hD : va_D A (ms_W h c u17) := by rw [hu17]; exact hD
    clear hu17
    refine lv_iload hx hb d_N_perform_101 (lv_at hl 3 rfl) ?_
    obtain ⟨h8, h9⟩ := qs_ret hF
    exact W.iret (v := x11) hx hb hr (fun t ht hW => ⟨⟨x11, u17, rfl, ⟨h8, h9⟩, by rw [ht]; exact hP, va_K.moved hW.alike hK, hD⟩, hS.F ht⟩) hS.2.2 d_N_perform_103
  have hl := lv_entry ([.ref (h 0), .int a1, .long a2, .long a3, .int a4] : List Value) (n := 12) (Nat.le_of_ble_eq_true rfl)
  rw [lg_entry_eq]
  generalize (lg_sl ([.ref (h 0), .int a1, .long a2, .long a3, .int a4] : List Value) ++ List.replicate (12 - (lg_sl ([.ref (h 0), .int a1, .long a2, .long a3, .int a4] : List Value)).length) Slot.unset).toArray = ls at hl ⊢
  have hl : lv_has ls 12 [(0, .ref (h 0)), (1, .int (a1)), (2, .long (a2)), (4, .long (a3)), (6, .int (a4))] := hl
  unfold f_N_perform at hF
  obtain ⟨H, hHe⟩ : ∃ H, H = s.heap := ⟨_, rfl⟩
  obtain ⟨locs, hLe⟩ : ∃ L : List Loc, L = [] := ⟨_, rfl⟩
  rw [← hHe] at hP ⊢
  rw [← hLe]
  have hS : va_S A s.heap H locs := by rw [hHe, hLe]; exact hS
  refine lv_iload hx hb d_N_perform_0 (lv_at hl 4 rfl) ?_
  refine lv_if_ne (tgt := 7) hx hb d_N_perform_2 (by decide) (fun c1 => ?_) (fun c1 => ?_)
  · have hF := qs_neg c1 hF
    refine lv_aload_n hx hb d_N_perform_7 rfl (lv_at hl 0 rfl) ?_
    refine va_get (D := (dC, dI)) (ci := 7) (v := .ref (h 11)) (C := R_N) (T := T_N) (N := 22) hx hb hg in_N hown hK hP 0 rfl rfl 12 (by decide) (hg _ t_630) (fun _ h9 => h9) rfl d_N_perform_8 ?_
    refine lv_bipush (v := 20) hx hb d_N_perform_11 (by decide) ?_
    obtain ⟨c2, hF⟩ := qs_in_some hF
    refine va_lald hx hb hK hP 11 10 rfl rfl c2 d_N_perform_13 ?_
    refine lv_lstore (lv' := [(7, .long (g.2 11 (20 : Int32).toNatClampNeg)), (0, .ref (h 0)), (1, .int (a1)), (2, .long (a2)), (4, .long (a3)), (6, .int (a4))]) hx hb d_N_perform_14 hl (by decide) rfl (fun ls hl => ?_)
    refine lv_aload_n hx hb d_N_perform_16 rfl (lv_at hl 1 rfl) ?_
    refine va_get (D := (dC, dI)) (ci := 7) (v := .ref (h 11)) (C := R_N) (T := T_N) (N := 22) hx hb hg in_N hown hK hP 0 rfl rfl 12 (by decide) (hg _ t_630) (fun _ h9 => h9) rfl d_N_perform_17 ?_
    refine lv_bipush (v := 21) hx hb d_N_perform_20 (by decide) ?_
    obtain ⟨c3, hF⟩ := qs_in_some hF
    refine va_lald hx hb hK hP 11 10 rfl rfl c3 d_N_perform_22 ?_
    refine lv_lstore (lv' := [(9, .long (g.2 11 (21 : Int32).toNatClampNeg)), (7, .long (g.2 11 (20 : Int32).toNatClampNeg)), (0, .ref (h 0)), (1, .int (a1)), (2, .long (a2)), (4, .long (a3)), (6, .int (a4))]) hx hb d_N_perform_23 hl (by decide) rfl (fun ls hl => ?_)
    refine lv_aload_n hx hb d_N_perform_25 rfl (lv_at hl 2 rfl) ?_
    refine va_get (D := (dC, dI)) (ci := 7) (v := .ref (h 11)) (C := R_N) (T := T_N) (N := 22) hx hb hg in_N hown hK hP 0 rfl rfl 12 (by decide) (hg _ t_630) (fun _ h9 => h9) rfl d_N_perform_26 ?_
    refine lv_bipush (v := 20) hx hb d_N_perform_29 (by decide) ?_
    refine lv_ldc2 (v := 8) hx hb hown (hg _ t_701) d_N_perform_31 ?_
    refine lv_lload_n hx hb d_N_perform_34 rfl (lv_at hl 4 rfl) ?_
    refine lv_lmul hx hb d_N_perform_35 ?_
    obtain ⟨c4, hF⟩ := qs_in_some hF
    refine va_last hx hb hK hP hD hS 11 10 rfl rfl c4 d_N_perform_36 (fun H locs hP hD hS => ?_)
    obtain ⟨u5, hu5, hF⟩ := qs_st_some hF
    have hP : va_P (dC, dI) vwCl (ms_W h c u5) H := by rw [hu5]; exact hP
    have hD : va_D A (ms_W h c u5) := by rw [hu5]; exact hD
    clear hu5
    refine lv_aload_n hx hb d_N_perform_37 rfl (lv_at hl 2 rfl) ?_
    refine va_get (D := (dC, dI)) (ci := 7) (v := .ref (h 11)) (C := R_N) (T := T_N) (N := 22) hx hb hg in_N hown hK hP 0 rfl rfl 12 (by decide) (hg _ t_630) (fun _ h9 => h9) rfl d_N_perform_38 ?_
    refine lv_bipush (v := 21) hx hb d_N_perform_41 (by decide) ?_
    refine lv_ldc2 (v := 8) hx hb hown (hg _ t_701) d_N_perform_43 ?_
    refine lv_lload hx hb d_N_perform_46 (lv_at hl 5 rfl) ?_
    refine lv_lmul hx hb d_N_perform_48 ?_
    obtain ⟨c6, hF⟩ := qs_in_some hF
    refine va_last hx hb hK hP hD hS 11 10 rfl rfl c6 d_N_perform_49 (fun H locs hP hD hS => ?_)
    obtain ⟨u7, hu7, hF⟩ := qs_st_some hF
    have hP : va_P (dC, dI) vwCl (ms_W h c u7) H := by rw [hu7]; exact hP
    have hD : va_D A (ms_W h c u7) := by rw [hu7]; exact hD
    clear hu7
    refine lv_aload_n hx hb d_N_perform_50 rfl (lv_at hl 2 rfl) ?_
    refine va_get (D := (dC, dI)) (ci := 7) (v := .ref (h 11)) (C := R_N) (T := T_N) (N := 22) hx hb hg in_N hown hK hP 0 rfl rfl 12 (by decide) (hg _ t_630) (fun _ h9 => h9) rfl d_N_perform_51 ?_
    refine lv_bipush (v := 22) hx hb d_N_perform_54 (by decide) ?_
    refine lv_aload_n hx hb d_N_perform_56 rfl (lv_at hl 2 rfl) ?_
    refine va_get (D := (dC, dI)) (ci := 7) (v := .long (u7.2 22 0)) (C := R_N) (T := T_N) (N := 22) hx hb hg in_N hown hK hP 0 rfl rfl 13 (by decide) (hg _ t_631) (fun _ h9 => h9) rfl d_N_perform_57 ?_
    obtain ⟨c8, hF⟩ := qs_in_some hF
    refine va_last hx hb hK hP hD hS 11 10 rfl rfl c8 d_N_perform_60 (fun H locs hP hD hS => ?_)
    obtain ⟨u9, hu9, hF⟩ := qs_st_some hF
    have hP : va_P (dC, dI) vwCl (ms_W h c u9) H := by rw [hu9]; exact hP
    have hD : va_D A (ms_W h c u9) := by rw [hu9]; exact hD
    clear hu9
    refine lv_aload_n hx hb d_N_perform_61 rfl (lv_at hl 2 rfl) ?_
    refine lv_iload_n hx hb d_N_perform_62 rfl (lv_at hl 3 rfl) ?_
    obtain ⟨r10, u11, hX, hF⟩ := qs_bn_some hF
    refine qs_ci (Wd := ms_W h c) (isC := [0, 1, 2, 3, 4, 5, 6, 7, 8, 9, 10, 11, 12]) (va_runV (own := "QuakeServerModel") (C := "QuakeServerModel") (As := [.int (a1)]) (rest := []) ⟨hx, hb, hml, hown, hg⟩ (c_N_instructions l dC dI h c H.size u9 (a1) r10 u11 hX) (cwV 1 hg (qs_gV t_761 t_763 tp_21 t_8 t_764) rfl rfl rfl (by decide +kernel) ⟨Nat.le_of_ble_eq_true rfl, Nat.le_of_ble_eq_true rfl⟩) ⟨qs_blind, va_recv hK hP (ci := 7) (q0 := 0) rfl rfl, fun U hU hW => ⟨rfl, by rw [hU], by rw [hU]; exact hP, va_K.moved hW.alike hK, hD.weaken (fun _ _ _ _ => trivial), hNs.warm hW⟩⟩ rfl rfl hl.1 rfl (lv_room (Nat.le_of_ble_eq_true rfl)) d_N_perform_63 ⟨Nat.le_of_ble_eq_true rfl, Nat.le_of_ble_eq_true rfl⟩) rfl hP hD hS hA (fun H locs hP hD hS => ?_)
    refine lv_istore (lv' := [(11, .int (r10)), (9, .long (g.2 11 (21 : Int32).toNatClampNeg)), (7, .long (g.2 11 (20 : Int32).toNatClampNeg)), (0, .ref (h 0)), (1, .int (a1)), (2, .long (a2)), (4, .long (a3)), (6, .int (a4))]) hx hb d_N_perform_66 hl (by decide) rfl (fun ls hl => ?_)
    refine lv_iload hx hb d_N_perform_68 (lv_at hl 0 rfl) ?_
    refine lv_if_le (tgt := 83) hx hb d_N_perform_70 (by decide) (fun c12 => ?_) (fun c12 => ?_)
    · have hF := qs_pos c12 hF
      exact kb_83 u11 (g.2 11 (20 : Int32).toNatClampNeg) (g.2 11 (21 : Int32).toNatClampNeg) (r10) H locs ls hP hD hS (lv_sub hl [3, 2, 1, 0] rfl) hF
    · have hF := qs_neg c12 hF
      refine lv_aload_n hx hb d_N_perform_73 rfl (lv_at hl 3 rfl) ?_
      refine lv_dup hx hb d_N_perform_74 rfl ?_
      refine va_get (D := (dC, dI)) (ci := 7) (v := .int (u11.1 25 0)) (C := R_N) (T := T_N) (N := 22) hx hb hg in_N hown hK hP 0 rfl rfl 16 (by decide) (hg _ t_634) (fun _ h9 => h9) rfl d_N_perform_75 ?_
      refine lv_iconst (v := 1) hx hb d_N_perform_78 (by decide) ?_
      refine lv_iadd hx hb d_N_perform_79 ?_
      refine va_put (D := (dC, dI)) (ci := 7) (v := .int ((u11.1 25 0) + 1)) (ty := .int) (C := R_N) (T := T_N) (N := 22) hx hb hg in_N ty_N ty_N_ok nm_N hown hK hP hD hS 0 rfl rfl 16 (by decide) (hg _ t_634) (fun _ h9 => h9) rfl (by decide +kernel) rfl rfl (Nat.le_of_ble_eq_true rfl) d_N_perform_80 (fun H locs hP hD hS => ?_)
      obtain ⟨u13, hu13, hF⟩ := qs_st_some hF
      have hP : va_P (dC, dI) vwCl (ms_W h c u13) H := by rw [hu13]; exact hP
      have hD : va_D A (ms_W h c u13) := by rw [hu13]; exact hD
      clear hu13
      exact kb_83 u13 (g.2 11 (20 : Int32).toNatClampNeg) (g.2 11 (21 : Int32).toNatClampNeg) (r10) H locs ls hP hD hS (lv_sub hl [3, 2, 1, 0] rfl) hF
  · have hF := qs_pos c1 hF
    refine lv_iconst (v := 0) hx hb d_N_perform_5 (by decide) ?_
    obtain ⟨h8, h9⟩ := qs_ret hF
    exact W.iret (v := 0) hx hb hr (fun t ht hW => ⟨⟨0, g, rfl, ⟨h8, h9⟩, by rw [ht]; exact hP, va_K.moved hW.alike hK, hD⟩, hS.F ht⟩) hS.2.2 d_N_perform_6

theorem d_N_run_0 : decode b_N_run 0 = .ok (.aload_n 0, 1) := by decide +kernel
theorem d_N_run_1 : decode b_N_run 1 = .ok (.iconst 0, 1) := by decide +kernel
theorem d_N_run_2 : decode b_N_run 2 = .ok (.putfield 52, 3) := by decide +kernel
theorem d_N_run_5 : decode b_N_run 5 = .ok (.iload_n 1, 1) := by decide +kernel
theorem d_N_run_6 : decode b_N_run 6 = .ok (.iconst 0, 1) := by decide +kernel
theorem d_N_run_7 : decode b_N_run 7 = .ok (.iconst 5, 1) := by decide +kernel
theorem d_N_run_8 : decode b_N_run 8 = .ok (.invokestatic 65, 3) := by decide +kernel
theorem d_N_run_11 : decode b_N_run 11 = .ok (.ifCond .eq 23, 3) := by decide +kernel
theorem d_N_run_14 : decode b_N_run 14 = .ok (.iload_n 2, 1) := by decide +kernel
theorem d_N_run_15 : decode b_N_run 15 = .ok (.iconst (-1), 1) := by decide +kernel
theorem d_N_run_16 : decode b_N_run 16 = .ok (.bipush 11, 2) := by decide +kernel
theorem d_N_run_18 : decode b_N_run 18 = .ok (.invokestatic 65, 3) := by decide +kernel
theorem d_N_run_21 : decode b_N_run 21 = .ok (.ifCond .eq 13, 3) := by decide +kernel
theorem d_N_run_24 : decode b_N_run 24 = .ok (.iload_n 3, 1) := by decide +kernel
theorem d_N_run_25 : decode b_N_run 25 = .ok (.iconst (-1), 1) := by decide +kernel
theorem d_N_run_26 : decode b_N_run 26 = .ok (.bipush 11, 2) := by decide +kernel
theorem d_N_run_28 : decode b_N_run 28 = .ok (.invokestatic 65, 3) := by decide +kernel
theorem d_N_run_31 : decode b_N_run 31 = .ok (.ifCond .ne 9, 3) := by decide +kernel
theorem d_N_run_34 : decode b_N_run 34 = .ok (.aload_n 0, 1) := by decide +kernel
theorem d_N_run_35 : decode b_N_run 35 = .ok (.iconst 1, 1) := by decide +kernel
theorem d_N_run_36 : decode b_N_run 36 = .ok (.invokevirtual 69, 3) := by decide +kernel
theorem d_N_run_39 : decode b_N_run 39 = .ok (.ireturn, 1) := by decide +kernel
theorem d_N_run_40 : decode b_N_run 40 = .ok (.aload_n 0, 1) := by decide +kernel
theorem d_N_run_41 : decode b_N_run 41 = .ok (.iload_n 1, 1) := by decide +kernel
theorem d_N_run_42 : decode b_N_run 42 = .ok (.iload_n 2, 1) := by decide +kernel
theorem d_N_run_43 : decode b_N_run 43 = .ok (.i2l, 1) := by decide +kernel
theorem d_N_run_44 : decode b_N_run 44 = .ok (.iload_n 3, 1) := by decide +kernel
theorem d_N_run_45 : decode b_N_run 45 = .ok (.i2l, 1) := by decide +kernel
theorem d_N_run_46 : decode b_N_run 46 = .ok (.iconst 1, 1) := by decide +kernel
theorem d_N_run_47 : decode b_N_run 47 = .ok (.invokevirtual 156, 3) := by decide +kernel
theorem d_N_run_50 : decode b_N_run 50 = .ok (.ireturn, 1) := by decide +kernel
def f_N_run_34  (g : Sm) : Option (Int32 × Sm) := (qs_bn (f_N_fail g (1)) fun r10 u11 => (some (r10, u11)))
def f_N_run (g : Sm) (a1 : Int32) (a2 : Int32) (a3 : Int32) : Option (Int32 × Sm) := (qs_st (qm_i g 20 (0)) fun u1 => (qs_pb (f_N_in (a1) (0) (5)) fun r2 => (if r2 = 0 then (f_N_run_34 u1) else (qs_pb (f_N_in (a2) ((-1)) (11)) fun r4 => (if r4 = 0 then (f_N_run_34 u1) else (qs_pb (f_N_in (a3) ((-1)) (11)) fun r6 => (if r6 = 0 then (f_N_run_34 u1) else (qs_bn (f_N_perform u1 (a1) (a2.toInt64) (a3.toInt64) (1)) fun r8 u9 => (some (r8, u9))))))))))
set_option maxHeartbeats 4000000 in
set_option maxRecDepth 100000 in
theorem c_N_run (l : Launch) (dC : Nat → ClassId) (dI : Nat → Nat → Nat) (h : Nat → Nat) (c : Nat → ClassId) (sz : Nat) (g : Sm) (a1 : Int32) (a2 : Int32) (a3 : Int32) (r0 : Int32) (u0 : Sm) (hF : f_N_run g a1 a2 a3 = some (r0, u0)) : Met l y_N_run (qs_ws y_N_run b_N_run 4 (some .int)) ({ frames := 6, cells := 0, slots := 0, locals := 152 } : Room) (va_Pc ([.ref (h 0), .int a1, .int a2, .int a3] : List Value) (fun U => U.heap.size = sz ∧ va_P (dC, dI) vwCl (ms_W h c g) U.heap ∧ va_K (dC, dI) vwCl (ms_T c) U ∧ va_D (fun _ => True) (ms_W h c g) ∧ qs_N U)) (va_Qi (fun (r : Int32) (u : Sm) => r = r0 ∧ u = u0) (ms_at dC dI h c (va_A (ms_W h c g) sz)) (va_A (ms_W h c g) sz)) 0 0 (va_A (ms_W h c g) sz) := by
  refine Met.ofW (cc := b_N_run) (maxL := 4) (ret := (some .int)) (by decide +kernel) rfl ?_
  intro p e s m args below meth cd s₁ B hml hv
  obtain ⟨rfl, hsz, hP, hK, hD0, hNs⟩ := hv
  have hx := B.exec
  have hb := B.bytes
  have hr := B.returns
  have hts := atoms_spec (ws := (qs_ws y_N_run b_N_run 4 (some .int))) B.pre
  have hg : ∀ w ∈ qs_gt, w.before _ s = true := fun w h => hts w (List.mem_cons_of_mem _ h)
  have hown : s.vm.findClass R_N = some m.cls := findClass_of_methodNamed B.named
  have hlocks := B.notSynchronized
  subst hsz
  have hD := hD0.self (sz := s.heap.size)
  generalize hAe : va_A (ms_W h c g) s.heap.size = A at hD ⊢
  have hA : ∀ q : Nat, s.heap.size ≤ q → A q := fun q h => by rw [← hAe]; exact Or.inr h
  have hS : va_S A s.heap s.heap [] := va_S.rf
  have kb_34 : ∀ (g : Sm) (H : Heap) (locs : List Loc) (ls : Array Slot), va_P (dC, dI) vwCl (ms_W h c g) H → va_D A (ms_W h c g) → va_S A s.heap H locs → lv_has ls 4 [(0, .ref (h 0))] → f_N_run_34  g = some (r0, u0) → W p l e (headSpec (qs_ws y_N_run b_N_run 4 (some .int)) ({ frames := 6, cells := 0, slots := 0, locals := 152 } : Room)).room s m ([.ref (h 0), .int a1, .int a2, .int a3] : List Value).toArray below meth cd H locs 0 0 (MQ below (va_Qi (fun (r : Int32) (u : Sm) => r = r0 ∧ u = u0) (ms_at dC dI h c A) A) ([.ref (h 0), .int a1, .int a2, .int a3] : List Value).toArray s 0 0 A) (F0 m 34 ls []) := by
    intro g H locs ls hP hD hS hl hF
    unfold f_N_run_34 at hF
    refine lv_aload_n hx hb d_N_run_34 rfl (lv_at hl 0 rfl) ?_
    refine lv_iconst (v := 1) hx hb d_N_run_35 (by decide) ?_
    obtain ⟨r10, u11, hX, hF⟩ := qs_bn_some hF
    refine qs_ci (Wd := ms_W h c) (isC := [0, 1, 2, 3, 4, 5, 6, 7, 8, 9, 10, 11, 12]) (va_runV (own := "QuakeServerModel") (C := "QuakeServerModel") (As := [.int (1)]) (rest := []) ⟨hx, hb, hml, hown, hg⟩ (c_N_fail l dC dI h c H.size g (1) r10 u11 hX) (cwV 1 hg (qs_gV t_697 t_699 tp_17 t_8 t_700) rfl rfl rfl (by decide +kernel) ⟨Nat.le_of_ble_eq_true rfl, Nat.le_of_ble_eq_true rfl⟩) ⟨qs_blind, va_recv hK hP (ci := 7) (q0 := 0) rfl rfl, fun U hU hW => ⟨rfl, by rw [hU], by rw [hU]; exact hP, va_K.moved hW.alike hK, hD.weaken (fun _ _ _ _ => trivial), hNs.warm hW⟩⟩ rfl rfl hl.1 rfl (lv_room (Nat.le_of_ble_eq_true rfl)) d_N_run_36 ⟨Nat.le_of_ble_eq_true rfl, Nat.le_of_ble_eq_true rfl⟩) rfl hP hD hS hA (fun H locs hP hD hS => ?_)
    obtain ⟨h8, h9⟩ := qs_ret hF
    exact W.iret (v := r10) hx hb hr (fun t ht hW => ⟨⟨r10, u11, rfl, ⟨h8, h9⟩, by rw [ht]; exact hP, va_K.moved hW.alike hK, hD⟩, hS.F ht⟩) hS.2.2 d_N_run_39
  have hl := lv_entry ([.ref (h 0), .int a1, .int a2, .int a3] : List Value) (n := 4) (Nat.le_of_ble_eq_true rfl)
  rw [lg_entry_eq]
  generalize (lg_sl ([.ref (h 0), .int a1, .int a2, .int a3] : List Value) ++ List.replicate (4 - (lg_sl ([.ref (h 0), .int a1, .int a2, .int a3] : List Value)).length) Slot.unset).toArray = ls at hl ⊢
  have hl : lv_has ls 4 [(0, .ref (h 0)), (1, .int (a1)), (2, .int (a2)), (3, .int (a3))] := hl
  unfold f_N_run at hF
  obtain ⟨H, hHe⟩ : ∃ H, H = s.heap := ⟨_, rfl⟩
  obtain ⟨locs, hLe⟩ : ∃ L : List Loc, L = [] := ⟨_, rfl⟩
  rw [← hHe] at hP ⊢
  rw [← hLe]
  have hS : va_S A s.heap H locs := by rw [hHe, hLe]; exact hS
  refine lv_aload_n hx hb d_N_run_0 rfl (lv_at hl 0 rfl) ?_
  refine lv_iconst (v := 0) hx hb d_N_run_1 (by decide) ?_
  refine va_put (D := (dC, dI)) (ci := 7) (v := .int (0)) (ty := .int) (C := R_N) (T := T_N) (N := 22) hx hb hg in_N ty_N ty_N_ok nm_N hown hK hP hD hS 0 rfl rfl 0 (by decide) (hg _ t_618) (fun _ h9 => h9) rfl (by decide +kernel) rfl rfl (Nat.le_of_ble_eq_true rfl) d_N_run_2 (fun H locs hP hD hS => ?_)
  obtain ⟨u1, hu1, hF⟩ := qs_st_some hF
  have hP : va_P (dC, dI) vwCl (ms_W h c u1) H := by rw [hu1]; exact hP
  have hD : va_D A (ms_W h c u1) := by rw [hu1]; exact hD
  clear hu1
  refine lv_iload_n hx hb d_N_run_5 rfl (lv_at hl 1 rfl) ?_
  refine lv_iconst (v := 0) hx hb d_N_run_6 (by decide) ?_
  refine lv_iconst (v := 5) hx hb d_N_run_7 (by decide) ?_
  obtain ⟨r2, hX, hF⟩ := qs_pb_some hF
  refine qs_psi (va_runS (own := "QuakeServerModel") (As := [.int (a1), .int (0), .int (5)]) (rest := []) ⟨hx, hb, hml, hown, hg⟩ (c_N_in l H.size (a1) (0) (5) r2 hX) (va_cwS 3 hg (qs_gS t_694 t_695 t_8 t_696) rfl rfl rfl (by decide +kernel) ⟨Nat.le_of_ble_eq_true rfl, Nat.le_of_ble_eq_true rfl⟩) ⟨qs_blind0, fun U hU hW => ⟨rfl, by rw [hU], hNs.warm hW⟩⟩ rfl rfl hl.1 rfl (lv_room (Nat.le_of_ble_eq_true rfl)) d_N_run_8 ⟨Nat.le_of_ble_eq_true rfl, Nat.le_of_ble_eq_true rfl⟩) hP hD hS hA (fun H locs hP hS => ?_)
  refine lv_if_eq (tgt := 34) hx hb d_N_run_11 (by decide) (fun c3 => ?_) (fun c3 => ?_)
  · have hF := qs_pos c3 hF
    exact kb_34 u1 H locs ls hP hD hS (lv_sub hl [0] rfl) hF
  · have hF := qs_neg c3 hF
    refine lv_iload_n hx hb d_N_run_14 rfl (lv_at hl 2 rfl) ?_
    refine lv_iconst (v := (-1)) hx hb d_N_run_15 (by decide) ?_
    refine lv_bipush (v := 11) hx hb d_N_run_16 (by decide) ?_
    obtain ⟨r4, hX, hF⟩ := qs_pb_some hF
    refine qs_psi (va_runS (own := "QuakeServerModel") (As := [.int (a2), .int ((-1)), .int (11)]) (rest := []) ⟨hx, hb, hml, hown, hg⟩ (c_N_in l H.size (a2) ((-1)) (11) r4 hX) (va_cwS 3 hg (qs_gS t_694 t_695 t_8 t_696) rfl rfl rfl (by decide +kernel) ⟨Nat.le_of_ble_eq_true rfl, Nat.le_of_ble_eq_true rfl⟩) ⟨qs_blind0, fun U hU hW => ⟨rfl, by rw [hU], hNs.warm hW⟩⟩ rfl rfl hl.1 rfl (lv_room (Nat.le_of_ble_eq_true rfl)) d_N_run_18 ⟨Nat.le_of_ble_eq_true rfl, Nat.le_of_ble_eq_true rfl⟩) hP hD hS hA (fun H locs hP hS => ?_)
    refine lv_if_eq (tgt := 34) hx hb d_N_run_21 (by decide) (fun c5 => ?_) (fun c5 => ?_)
    · have hF := qs_pos c5 hF
      exact kb_34 u1 H locs ls hP hD hS (lv_sub hl [0] rfl) hF
    · have hF := qs_neg c5 hF
      refine lv_iload_n hx hb d_N_run_24 rfl (lv_at hl 3 rfl) ?_
      refine lv_iconst (v := (-1)) hx hb d_N_run_25 (by decide) ?_
      refine lv_bipush (v := 11) hx hb d_N_run_26 (by decide) ?_
      obtain ⟨r6, hX, hF⟩ := qs_pb_some hF
      refine qs_psi (va_runS (own := "QuakeServerModel") (As := [.int (a3), .int ((-1)), .int (11)]) (rest := []) ⟨hx, hb, hml, hown, hg⟩ (c_N_in l H.size (a3) ((-1)) (11) r6 hX) (va_cwS 3 hg (qs_gS t_694 t_695 t_8 t_696) rfl rfl rfl (by decide +kernel) ⟨Nat.le_of_ble_eq_true rfl, Nat.le_of_ble_eq_true rfl⟩) ⟨qs_blind0, fun U hU hW => ⟨rfl, by rw [hU], hNs.warm hW⟩⟩ rfl rfl hl.1 rfl (lv_room (Nat.le_of_ble_eq_true rfl)) d_N_run_28 ⟨Nat.le_of_ble_eq_true rfl, Nat.le_of_ble_eq_true rfl⟩) hP hD hS hA (fun H locs hP hS => ?_)
      refine lv_if_ne (tgt := 40) hx hb d_N_run_31 (by decide) (fun c7 => ?_) (fun c7 => ?_)
      · have hF := qs_neg c7 hF
        refine lv_aload_n hx hb d_N_run_40 rfl (lv_at hl 0 rfl) ?_
        refine lv_iload_n hx hb d_N_run_41 rfl (lv_at hl 1 rfl) ?_
        refine lv_iload_n hx hb d_N_run_42 rfl (lv_at hl 2 rfl) ?_
        refine lv_i2l (v := a2.toInt64) hx hb d_N_run_43 rfl ?_
        refine lv_iload_n hx hb d_N_run_44 rfl (lv_at hl 3 rfl) ?_
        refine lv_i2l (v := a3.toInt64) hx hb d_N_run_45 rfl ?_
        refine lv_iconst (v := 1) hx hb d_N_run_46 (by decide) ?_
        obtain ⟨r8, u9, hX, hF⟩ := qs_bn_some hF
        refine qs_ci (Wd := ms_W h c) (isC := [0, 1, 2, 3, 4, 5, 6, 7, 8, 9, 10, 11, 12]) (va_runV (own := "QuakeServerModel") (C := "QuakeServerModel") (As := [.int (a1), .long (a2.toInt64), .long (a3.toInt64), .int (1)]) (rest := []) ⟨hx, hb, hml, hown, hg⟩ (c_N_perform l dC dI h c H.size u1 (a1) (a2.toInt64) (a3.toInt64) (1) r8 u9 hX) (cwV 4 hg (qs_gV t_757 t_759 tp_20 t_8 t_760) rfl rfl rfl (by decide +kernel) ⟨Nat.le_of_ble_eq_true rfl, Nat.le_of_ble_eq_true rfl⟩) ⟨qs_blind, va_recv hK hP (ci := 7) (q0 := 0) rfl rfl, fun U hU hW => ⟨rfl, by rw [hU], by rw [hU]; exact hP, va_K.moved hW.alike hK, hD.weaken (fun _ _ _ _ => trivial), hNs.warm hW⟩⟩ rfl rfl hl.1 rfl (lv_room (Nat.le_of_ble_eq_true rfl)) d_N_run_47 ⟨Nat.le_of_ble_eq_true rfl, Nat.le_of_ble_eq_true rfl⟩) rfl hP hD hS hA (fun H locs hP hD hS => ?_)
        obtain ⟨h8, h9⟩ := qs_ret hF
        exact W.iret (v := r8) hx hb hr (fun t ht hW => ⟨⟨r8, u9, rfl, ⟨h8, h9⟩, by rw [ht]; exact hP, va_K.moved hW.alike hK, hD⟩, hS.F ht⟩) hS.2.2 d_N_run_50
      · have hF := qs_pos c7 hF
        exact kb_34 u1 H locs ls hP hD hS (lv_sub hl [0] rfl) hF
