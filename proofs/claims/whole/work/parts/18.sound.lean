theorem d_P_isSound_0 : decode b_P_isSound 0 = .ok (.iload_n 0, 1) := by decide +kernel
theorem d_P_isSound_1 : decode b_P_isSound 1 = .ok (.tableswitch 250 0 15 #[79, 108, 108, 108, 108, 108, 174, 141, 141, 198, 222, 229, 243, 236, 174, 243], 79) := by decide +kernel
theorem d_P_isSound_80 : decode b_P_isSound 80 = .ok (.iload_n 2, 1) := by decide +kernel
theorem d_P_isSound_81 : decode b_P_isSound 81 = .ok (.sipush (-16000), 3) := by decide +kernel
theorem d_P_isSound_84 : decode b_P_isSound 84 = .ok (.if_icmp .lt 23, 3) := by decide +kernel
theorem d_P_isSound_87 : decode b_P_isSound 87 = .ok (.iload_n 2, 1) := by decide +kernel
theorem d_P_isSound_88 : decode b_P_isSound 88 = .ok (.sipush 16000, 3) := by decide +kernel
theorem d_P_isSound_91 : decode b_P_isSound 91 = .ok (.if_icmp .gt 16, 3) := by decide +kernel
theorem d_P_isSound_94 : decode b_P_isSound 94 = .ok (.iload_n 3, 1) := by decide +kernel
theorem d_P_isSound_95 : decode b_P_isSound 95 = .ok (.bipush 24, 2) := by decide +kernel
theorem d_P_isSound_97 : decode b_P_isSound 97 = .ok (.invokestatic 18, 3) := by decide +kernel
theorem d_P_isSound_100 : decode b_P_isSound 100 = .ok (.ifCond .eq 7, 3) := by decide +kernel
theorem d_P_isSound_103 : decode b_P_isSound 103 = .ok (.iconst 1, 1) := by decide +kernel
theorem d_P_isSound_104 : decode b_P_isSound 104 = .ok (.goto 4, 3) := by decide +kernel
theorem d_P_isSound_107 : decode b_P_isSound 107 = .ok (.iconst 0, 1) := by decide +kernel
theorem d_P_isSound_108 : decode b_P_isSound 108 = .ok (.ireturn, 1) := by decide +kernel
theorem d_P_isSound_109 : decode b_P_isSound 109 = .ok (.iload_n 1, 1) := by decide +kernel
theorem d_P_isSound_110 : decode b_P_isSound 110 = .ok (.bipush 24, 2) := by decide +kernel
theorem d_P_isSound_112 : decode b_P_isSound 112 = .ok (.invokestatic 18, 3) := by decide +kernel
theorem d_P_isSound_115 : decode b_P_isSound 115 = .ok (.ifCond .eq 25, 3) := by decide +kernel
theorem d_P_isSound_118 : decode b_P_isSound 118 = .ok (.iload_n 2, 1) := by decide +kernel
theorem d_P_isSound_119 : decode b_P_isSound 119 = .ok (.bipush 24, 2) := by decide +kernel
theorem d_P_isSound_121 : decode b_P_isSound 121 = .ok (.invokestatic 18, 3) := by decide +kernel
theorem d_P_isSound_124 : decode b_P_isSound 124 = .ok (.ifCond .eq 16, 3) := by decide +kernel
theorem d_P_isSound_127 : decode b_P_isSound 127 = .ok (.iload_n 3, 1) := by decide +kernel
theorem d_P_isSound_128 : decode b_P_isSound 128 = .ok (.bipush 24, 2) := by decide +kernel
theorem d_P_isSound_130 : decode b_P_isSound 130 = .ok (.invokestatic 18, 3) := by decide +kernel
theorem d_P_isSound_133 : decode b_P_isSound 133 = .ok (.ifCond .eq 7, 3) := by decide +kernel
theorem d_P_isSound_136 : decode b_P_isSound 136 = .ok (.iconst 1, 1) := by decide +kernel
theorem d_P_isSound_137 : decode b_P_isSound 137 = .ok (.goto 4, 3) := by decide +kernel
theorem d_P_isSound_140 : decode b_P_isSound 140 = .ok (.iconst 0, 1) := by decide +kernel
theorem d_P_isSound_141 : decode b_P_isSound 141 = .ok (.ireturn, 1) := by decide +kernel
theorem d_P_isSound_142 : decode b_P_isSound 142 = .ok (.iload_n 1, 1) := by decide +kernel
theorem d_P_isSound_143 : decode b_P_isSound 143 = .ok (.bipush 24, 2) := by decide +kernel
theorem d_P_isSound_145 : decode b_P_isSound 145 = .ok (.invokestatic 18, 3) := by decide +kernel
theorem d_P_isSound_148 : decode b_P_isSound 148 = .ok (.ifCond .eq 25, 3) := by decide +kernel
theorem d_P_isSound_151 : decode b_P_isSound 151 = .ok (.iload_n 2, 1) := by decide +kernel
theorem d_P_isSound_152 : decode b_P_isSound 152 = .ok (.bipush 16, 2) := by decide +kernel
theorem d_P_isSound_154 : decode b_P_isSound 154 = .ok (.invokestatic 18, 3) := by decide +kernel
theorem d_P_isSound_157 : decode b_P_isSound 157 = .ok (.ifCond .eq 16, 3) := by decide +kernel
theorem d_P_isSound_160 : decode b_P_isSound 160 = .ok (.iload_n 3, 1) := by decide +kernel
theorem d_P_isSound_161 : decode b_P_isSound 161 = .ok (.bipush 24, 2) := by decide +kernel
theorem d_P_isSound_163 : decode b_P_isSound 163 = .ok (.invokestatic 18, 3) := by decide +kernel
theorem d_P_isSound_166 : decode b_P_isSound 166 = .ok (.ifCond .eq 7, 3) := by decide +kernel
theorem d_P_isSound_169 : decode b_P_isSound 169 = .ok (.iconst 1, 1) := by decide +kernel
theorem d_P_isSound_170 : decode b_P_isSound 170 = .ok (.goto 4, 3) := by decide +kernel
theorem d_P_isSound_173 : decode b_P_isSound 173 = .ok (.iconst 0, 1) := by decide +kernel
theorem d_P_isSound_174 : decode b_P_isSound 174 = .ok (.ireturn, 1) := by decide +kernel
theorem d_P_isSound_175 : decode b_P_isSound 175 = .ok (.iload_n 1, 1) := by decide +kernel
theorem d_P_isSound_176 : decode b_P_isSound 176 = .ok (.bipush 24, 2) := by decide +kernel
theorem d_P_isSound_178 : decode b_P_isSound 178 = .ok (.invokestatic 18, 3) := by decide +kernel
theorem d_P_isSound_181 : decode b_P_isSound 181 = .ok (.ifCond .eq 16, 3) := by decide +kernel
theorem d_P_isSound_184 : decode b_P_isSound 184 = .ok (.iload_n 3, 1) := by decide +kernel
theorem d_P_isSound_185 : decode b_P_isSound 185 = .ok (.bipush 24, 2) := by decide +kernel
theorem d_P_isSound_187 : decode b_P_isSound 187 = .ok (.invokestatic 18, 3) := by decide +kernel
theorem d_P_isSound_190 : decode b_P_isSound 190 = .ok (.ifCond .eq 7, 3) := by decide +kernel
theorem d_P_isSound_193 : decode b_P_isSound 193 = .ok (.iconst 1, 1) := by decide +kernel
theorem d_P_isSound_194 : decode b_P_isSound 194 = .ok (.goto 4, 3) := by decide +kernel
theorem d_P_isSound_197 : decode b_P_isSound 197 = .ok (.iconst 0, 1) := by decide +kernel
theorem d_P_isSound_198 : decode b_P_isSound 198 = .ok (.ireturn, 1) := by decide +kernel
theorem d_P_isSound_199 : decode b_P_isSound 199 = .ok (.iload_n 1, 1) := by decide +kernel
theorem d_P_isSound_200 : decode b_P_isSound 200 = .ok (.bipush 24, 2) := by decide +kernel
theorem d_P_isSound_202 : decode b_P_isSound 202 = .ok (.invokestatic 18, 3) := by decide +kernel
theorem d_P_isSound_205 : decode b_P_isSound 205 = .ok (.ifCond .eq 16, 3) := by decide +kernel
theorem d_P_isSound_208 : decode b_P_isSound 208 = .ok (.iload_n 2, 1) := by decide +kernel
theorem d_P_isSound_209 : decode b_P_isSound 209 = .ok (.bipush 14, 2) := by decide +kernel
theorem d_P_isSound_211 : decode b_P_isSound 211 = .ok (.invokestatic 18, 3) := by decide +kernel
theorem d_P_isSound_214 : decode b_P_isSound 214 = .ok (.ifCond .eq 7, 3) := by decide +kernel
theorem d_P_isSound_217 : decode b_P_isSound 217 = .ok (.iconst 1, 1) := by decide +kernel
theorem d_P_isSound_218 : decode b_P_isSound 218 = .ok (.goto 4, 3) := by decide +kernel
theorem d_P_isSound_221 : decode b_P_isSound 221 = .ok (.iconst 0, 1) := by decide +kernel
theorem d_P_isSound_222 : decode b_P_isSound 222 = .ok (.ireturn, 1) := by decide +kernel
theorem d_P_isSound_223 : decode b_P_isSound 223 = .ok (.iload_n 2, 1) := by decide +kernel
theorem d_P_isSound_224 : decode b_P_isSound 224 = .ok (.bipush 14, 2) := by decide +kernel
theorem d_P_isSound_226 : decode b_P_isSound 226 = .ok (.invokestatic 18, 3) := by decide +kernel
theorem d_P_isSound_229 : decode b_P_isSound 229 = .ok (.ireturn, 1) := by decide +kernel
theorem d_P_isSound_230 : decode b_P_isSound 230 = .ok (.iload_n 1, 1) := by decide +kernel
theorem d_P_isSound_231 : decode b_P_isSound 231 = .ok (.bipush 6, 2) := by decide +kernel
theorem d_P_isSound_233 : decode b_P_isSound 233 = .ok (.invokestatic 18, 3) := by decide +kernel
theorem d_P_isSound_236 : decode b_P_isSound 236 = .ok (.ireturn, 1) := by decide +kernel
theorem d_P_isSound_237 : decode b_P_isSound 237 = .ok (.iload_n 1, 1) := by decide +kernel
theorem d_P_isSound_238 : decode b_P_isSound 238 = .ok (.bipush 24, 2) := by decide +kernel
theorem d_P_isSound_240 : decode b_P_isSound 240 = .ok (.invokestatic 18, 3) := by decide +kernel
theorem d_P_isSound_243 : decode b_P_isSound 243 = .ok (.ireturn, 1) := by decide +kernel
theorem d_P_isSound_244 : decode b_P_isSound 244 = .ok (.iload_n 3, 1) := by decide +kernel
theorem d_P_isSound_245 : decode b_P_isSound 245 = .ok (.bipush 24, 2) := by decide +kernel
theorem d_P_isSound_247 : decode b_P_isSound 247 = .ok (.invokestatic 18, 3) := by decide +kernel
theorem d_P_isSound_250 : decode b_P_isSound 250 = .ok (.ireturn, 1) := by decide +kernel
theorem d_P_isSound_251 : decode b_P_isSound 251 = .ok (.iload_n 0, 1) := by decide +kernel
theorem d_P_isSound_252 : decode b_P_isSound 252 = .ok (.bipush 16, 2) := by decide +kernel
theorem d_P_isSound_254 : decode b_P_isSound 254 = .ok (.if_icmp .ne 7, 3) := by decide +kernel
theorem d_P_isSound_257 : decode b_P_isSound 257 = .ok (.iconst 1, 1) := by decide +kernel
theorem d_P_isSound_258 : decode b_P_isSound 258 = .ok (.goto 4, 3) := by decide +kernel
theorem d_P_isSound_261 : decode b_P_isSound 261 = .ok (.iconst 0, 1) := by decide +kernel
theorem d_P_isSound_262 : decode b_P_isSound 262 = .ok (.ireturn, 1) := by decide +kernel
def f_P_isSound (a1 : Int32) (a2 : Int32) (a3 : Int32) (a4 : Int32) : Option Int32 := (if a1 = 0 then (if a3 < (-16000) then (some (0)) else (if 16000 < a3 then (some (0)) else (qs_pb (f_Q_isBelow (a4) (24)) fun r4 => (if r4 = 0 then (some (0)) else (some (1)))))) else (if a1 = 1 then (qs_pb (f_Q_isBelow (a2) (24)) fun r7 => (if r7 = 0 then (some (0)) else (qs_pb (f_Q_isBelow (a3) (24)) fun r9 => (if r9 = 0 then (some (0)) else (qs_pb (f_Q_isBelow (a4) (24)) fun r11 => (if r11 = 0 then (some (0)) else (some (1)))))))) else (if a1 = 2 then (qs_pb (f_Q_isBelow (a2) (24)) fun r14 => (if r14 = 0 then (some (0)) else (qs_pb (f_Q_isBelow (a3) (24)) fun r16 => (if r16 = 0 then (some (0)) else (qs_pb (f_Q_isBelow (a4) (24)) fun r18 => (if r18 = 0 then (some (0)) else (some (1)))))))) else (if a1 = 3 then (qs_pb (f_Q_isBelow (a2) (24)) fun r21 => (if r21 = 0 then (some (0)) else (qs_pb (f_Q_isBelow (a3) (24)) fun r23 => (if r23 = 0 then (some (0)) else (qs_pb (f_Q_isBelow (a4) (24)) fun r25 => (if r25 = 0 then (some (0)) else (some (1)))))))) else (if a1 = 4 then (qs_pb (f_Q_isBelow (a2) (24)) fun r28 => (if r28 = 0 then (some (0)) else (qs_pb (f_Q_isBelow (a3) (24)) fun r30 => (if r30 = 0 then (some (0)) else (qs_pb (f_Q_isBelow (a4) (24)) fun r32 => (if r32 = 0 then (some (0)) else (some (1)))))))) else (if a1 = 5 then (qs_pb (f_Q_isBelow (a2) (24)) fun r35 => (if r35 = 0 then (some (0)) else (qs_pb (f_Q_isBelow (a3) (24)) fun r37 => (if r37 = 0 then (some (0)) else (qs_pb (f_Q_isBelow (a4) (24)) fun r39 => (if r39 = 0 then (some (0)) else (some (1)))))))) else (if a1 = 6 then (qs_pb (f_Q_isBelow (a2) (24)) fun r42 => (if r42 = 0 then (some (0)) else (qs_pb (f_Q_isBelow (a4) (24)) fun r44 => (if r44 = 0 then (some (0)) else (some (1)))))) else (if a1 = 7 then (qs_pb (f_Q_isBelow (a2) (24)) fun r47 => (if r47 = 0 then (some (0)) else (qs_pb (f_Q_isBelow (a3) (16)) fun r49 => (if r49 = 0 then (some (0)) else (qs_pb (f_Q_isBelow (a4) (24)) fun r51 => (if r51 = 0 then (some (0)) else (some (1)))))))) else (if a1 = 8 then (qs_pb (f_Q_isBelow (a2) (24)) fun r54 => (if r54 = 0 then (some (0)) else (qs_pb (f_Q_isBelow (a3) (16)) fun r56 => (if r56 = 0 then (some (0)) else (qs_pb (f_Q_isBelow (a4) (24)) fun r58 => (if r58 = 0 then (some (0)) else (some (1)))))))) else (if a1 = 9 then (qs_pb (f_Q_isBelow (a2) (24)) fun r61 => (if r61 = 0 then (some (0)) else (qs_pb (f_Q_isBelow (a3) (14)) fun r63 => (if r63 = 0 then (some (0)) else (some (1)))))) else (if a1 = 10 then (qs_pb (f_Q_isBelow (a3) (14)) fun r66 => (qs_bo (r66) (some (r66)))) else (if a1 = 11 then (qs_pb (f_Q_isBelow (a2) (6)) fun r69 => (qs_bo (r69) (some (r69)))) else (if a1 = 12 then (qs_pb (f_Q_isBelow (a4) (24)) fun r72 => (qs_bo (r72) (some (r72)))) else (if a1 = 13 then (qs_pb (f_Q_isBelow (a2) (24)) fun r75 => (qs_bo (r75) (some (r75)))) else (if a1 = 14 then (qs_pb (f_Q_isBelow (a2) (24)) fun r78 => (if r78 = 0 then (some (0)) else (qs_pb (f_Q_isBelow (a4) (24)) fun r80 => (if r80 = 0 then (some (0)) else (some (1)))))) else (if a1 = 15 then (qs_pb (f_Q_isBelow (a4) (24)) fun r83 => (qs_bo (r83) (some (r83)))) else (if a1 = 16 then (some (1)) else (some (0)))))))))))))))))))
set_option maxHeartbeats 4000000 in
set_option maxRecDepth 100000 in
theorem c_P_isSound (l : Launch) (sz : Nat) (a1 : Int32) (a2 : Int32) (a3 : Int32) (a4 : Int32) (r0 : Int32) (hF : f_P_isSound a1 a2 a3 a4 = some r0) : Met l y_P_isSound (qs_ws y_P_isSound b_P_isSound 4 (some .boolean)) ({ frames := 1, cells := 0, slots := 0, locals := 21 } : Room) (va_Pc ([.int a1, .int a2, .int a3, .int a4] : List Value) (fun U => U.heap.size = sz ∧ qs_N U)) (va_Qi (fun (r : Int32) (_ : Unit) => r = r0) (fun _ _ => True) (va_A [] sz)) 0 0 (va_A [] sz) := by
  refine Met.ofW (cc := b_P_isSound) (maxL := 4) (ret := (some .boolean)) (by decide +kernel) rfl ?_
  intro p e s m args below meth cd s₁ B hml hv
  obtain ⟨rfl, hsz, hNs⟩ := hv
  have hx := B.exec
  have hb := B.bytes
  have hr := B.returns
  have hts := atoms_spec (ws := (qs_ws y_P_isSound b_P_isSound 4 (some .boolean))) B.pre
  have hg : ∀ w ∈ qs_gt, w.before _ s = true := fun w h => hts w (List.mem_cons_of_mem _ h)
  have hown : s.vm.findClass R_P = some m.cls := findClass_of_methodNamed B.named
  have hlocks := B.notSynchronized
  subst hsz
  have hD : va_D (va_A [] s.heap.size) [] := qs_D0
  have hP : va_P qs_G0 [] [] s.heap := qs_P0
  generalize hAe : va_A ([]) s.heap.size = A at hD ⊢
  have hA : ∀ q : Nat, s.heap.size ≤ q → A q := fun q h => by rw [← hAe]; exact Or.inr h
  have hS : va_S A s.heap s.heap [] := va_S.rf
  have hl := lv_entry ([.int a1, .int a2, .int a3, .int a4] : List Value) (n := 4) (Nat.le_of_ble_eq_true rfl)
  rw [lg_entry_eq]
  generalize (lg_sl ([.int a1, .int a2, .int a3, .int a4] : List Value) ++ List.replicate (4 - (lg_sl ([.int a1, .int a2, .int a3, .int a4] : List Value)).length) Slot.unset).toArray = ls at hl ⊢
  have hl : lv_has ls 4 [(0, .int (a1)), (1, .int (a2)), (2, .int (a3)), (3, .int (a4))] := hl
  unfold f_P_isSound at hF
  obtain ⟨H, hHe⟩ : ∃ H, H = s.heap := ⟨_, rfl⟩
  obtain ⟨locs, hLe⟩ : ∃ L : List Loc, L = [] := ⟨_, rfl⟩
  rw [← hHe] at hP ⊢
  rw [← hLe]
  have hS : va_S A s.heap H locs := by rw [hHe, hLe]; exact hS
  refine lv_iload_n hx hb d_P_isSound_0 rfl (lv_at hl 0 rfl) ?_
  by_cases c1 : a1 = 0
  · have hF := qs_pos c1 hF
    refine lv_tableIn (tgt := 80) hx hb d_P_isSound_1 (by rw [c1]; decide) (by rw [c1]; decide) (by rw [c1]; rfl) (by decide) ?_
    refine lv_iload_n hx hb d_P_isSound_80 rfl (lv_at hl 2 rfl) ?_
    refine lv_sipush (v := (-16000)) hx hb d_P_isSound_81 (by decide) ?_
    refine lv_icmp_lt (tgt := 107) hx hb d_P_isSound_84 (by decide) (fun c2 => ?_) (fun c2 => ?_)
    · have hF := qs_pos c2 hF
      refine lv_iconst (v := 0) hx hb d_P_isSound_107 (by decide) ?_
      have h9 := Option.some.inj hF
      exact W.zret (ty := .boolean) (v := 0) hx hb hr rfl (fun t ht hW => ⟨⟨0, (), rfl, h9, trivial⟩, hS.F ht⟩) hS.2.2 d_P_isSound_108
    · have hF := qs_neg c2 hF
      refine lv_iload_n hx hb d_P_isSound_87 rfl (lv_at hl 2 rfl) ?_
      refine lv_sipush (v := 16000) hx hb d_P_isSound_88 (by decide) ?_
      refine lv_icmp_gt (tgt := 107) hx hb d_P_isSound_91 (by decide) (fun c3 => ?_) (fun c3 => ?_)
      · have hF := qs_pos c3 hF
        refine lv_iconst (v := 0) hx hb d_P_isSound_107 (by decide) ?_
        have h9 := Option.some.inj hF
        exact W.zret (ty := .boolean) (v := 0) hx hb hr rfl (fun t ht hW => ⟨⟨0, (), rfl, h9, trivial⟩, hS.F ht⟩) hS.2.2 d_P_isSound_108
      · have hF := qs_neg c3 hF
        refine lv_iload_n hx hb d_P_isSound_94 rfl (lv_at hl 3 rfl) ?_
        refine lv_bipush (v := 24) hx hb d_P_isSound_95 (by decide) ?_
        obtain ⟨r4, hX, hF⟩ := qs_pb_some hF
        refine qs_psi (va_runSN (own := "QuakeServer$Program") (As := [.int (a4), .int (24)]) (rest := []) ⟨hx, hb, hml, hown, hg⟩ (c_Q_isBelow l H.size (a4) (24) r4 hX) ⟨va_cnB (own := "QuakeServer$Program") (index := 18) (host := "QuakeServer") 2 hg (qs_gc t_313) rfl rfl rfl (nM_3 hNs) (hg _ t_1) (by decide +kernel) ⟨Nat.le_of_ble_eq_true rfl, Nat.le_of_ble_eq_true rfl⟩, hg _ t_312, trivial⟩ ⟨qs_blind0, fun U hU hW => ⟨rfl, by rw [hU], hNs.warm hW⟩⟩ rfl rfl hl.1 rfl (lv_room (Nat.le_of_ble_eq_true rfl)) d_P_isSound_97 ⟨Nat.le_of_ble_eq_true rfl, Nat.le_of_ble_eq_true rfl⟩) hP hD hS hA (fun H locs hP hS => ?_)
        refine lv_if_eq (tgt := 107) hx hb d_P_isSound_100 (by decide) (fun c5 => ?_) (fun c5 => ?_)
        · have hF := qs_pos c5 hF
          refine lv_iconst (v := 0) hx hb d_P_isSound_107 (by decide) ?_
          have h9 := Option.some.inj hF
          exact W.zret (ty := .boolean) (v := 0) hx hb hr rfl (fun t ht hW => ⟨⟨0, (), rfl, h9, trivial⟩, hS.F ht⟩) hS.2.2 d_P_isSound_108
        · have hF := qs_neg c5 hF
          refine lv_iconst (v := 1) hx hb d_P_isSound_103 (by decide) ?_
          refine lv_goto (tgt := 108) hx hb d_P_isSound_104 (by decide) ?_
          have h9 := Option.some.inj hF
          exact W.zret (ty := .boolean) (v := 1) hx hb hr rfl (fun t ht hW => ⟨⟨1, (), rfl, h9, trivial⟩, hS.F ht⟩) hS.2.2 d_P_isSound_108
  have hF := qs_neg c1 hF
  by_cases c6 : a1 = 1
  · have hF := qs_pos c6 hF
    refine lv_tableIn (tgt := 109) hx hb d_P_isSound_1 (by rw [c6]; decide) (by rw [c6]; decide) (by rw [c6]; rfl) (by decide) ?_
    refine lv_iload_n hx hb d_P_isSound_109 rfl (lv_at hl 1 rfl) ?_
    refine lv_bipush (v := 24) hx hb d_P_isSound_110 (by decide) ?_
    obtain ⟨r7, hX, hF⟩ := qs_pb_some hF
    refine qs_psi (va_runSN (own := "QuakeServer$Program") (As := [.int (a2), .int (24)]) (rest := []) ⟨hx, hb, hml, hown, hg⟩ (c_Q_isBelow l H.size (a2) (24) r7 hX) ⟨va_cnB (own := "QuakeServer$Program") (index := 18) (host := "QuakeServer") 2 hg (qs_gc t_313) rfl rfl rfl (nM_3 hNs) (hg _ t_1) (by decide +kernel) ⟨Nat.le_of_ble_eq_true rfl, Nat.le_of_ble_eq_true rfl⟩, hg _ t_312, trivial⟩ ⟨qs_blind0, fun U hU hW => ⟨rfl, by rw [hU], hNs.warm hW⟩⟩ rfl rfl hl.1 rfl (lv_room (Nat.le_of_ble_eq_true rfl)) d_P_isSound_112 ⟨Nat.le_of_ble_eq_true rfl, Nat.le_of_ble_eq_true rfl⟩) hP hD hS hA (fun H locs hP hS => ?_)
    refine lv_if_eq (tgt := 140) hx hb d_P_isSound_115 (by decide) (fun c8 => ?_) (fun c8 => ?_)
    · have hF := qs_pos c8 hF
      refine lv_iconst (v := 0) hx hb d_P_isSound_140 (by decide) ?_
      have h9 := Option.some.inj hF
      exact W.zret (ty := .boolean) (v := 0) hx hb hr rfl (fun t ht hW => ⟨⟨0, (), rfl, h9, trivial⟩, hS.F ht⟩) hS.2.2 d_P_isSound_141
    · have hF := qs_neg c8 hF
      refine lv_iload_n hx hb d_P_isSound_118 rfl (lv_at hl 2 rfl) ?_
      refine lv_bipush (v := 24) hx hb d_P_isSound_119 (by decide) ?_
      obtain ⟨r9, hX, hF⟩ := qs_pb_some hF
      refine qs_psi (va_runSN (own := "QuakeServer$Program") (As := [.int (a3), .int (24)]) (rest := []) ⟨hx, hb, hml, hown, hg⟩ (c_Q_isBelow l H.size (a3) (24) r9 hX) ⟨va_cnB (own := "QuakeServer$Program") (index := 18) (host := "QuakeServer") 2 hg (qs_gc t_313) rfl rfl rfl (nM_3 hNs) (hg _ t_1) (by decide +kernel) ⟨Nat.le_of_ble_eq_true rfl, Nat.le_of_ble_eq_true rfl⟩, hg _ t_312, trivial⟩ ⟨qs_blind0, fun U hU hW => ⟨rfl, by rw [hU], hNs.warm hW⟩⟩ rfl rfl hl.1 rfl (lv_room (Nat.le_of_ble_eq_true rfl)) d_P_isSound_121 ⟨Nat.le_of_ble_eq_true rfl, Nat.le_of_ble_eq_true rfl⟩) hP hD hS hA (fun H locs hP hS => ?_)
      refine lv_if_eq (tgt := 140) hx hb d_P_isSound_124 (by decide) (fun c10 => ?_) (fun c10 => ?_)
      · have hF := qs_pos c10 hF
        refine lv_iconst (v := 0) hx hb d_P_isSound_140 (by decide) ?_
        have h9 := Option.some.inj hF
        exact W.zret (ty := .boolean) (v := 0) hx hb hr rfl (fun t ht hW => ⟨⟨0, (), rfl, h9, trivial⟩, hS.F ht⟩) hS.2.2 d_P_isSound_141
      · have hF := qs_neg c10 hF
        refine lv_iload_n hx hb d_P_isSound_127 rfl (lv_at hl 3 rfl) ?_
        refine lv_bipush (v := 24) hx hb d_P_isSound_128 (by decide) ?_
        obtain ⟨r11, hX, hF⟩ := qs_pb_some hF
        refine qs_psi (va_runSN (own := "QuakeServer$Program") (As := [.int (a4), .int (24)]) (rest := []) ⟨hx, hb, hml, hown, hg⟩ (c_Q_isBelow l H.size (a4) (24) r11 hX) ⟨va_cnB (own := "QuakeServer$Program") (index := 18) (host := "QuakeServer") 2 hg (qs_gc t_313) rfl rfl rfl (nM_3 hNs) (hg _ t_1) (by decide +kernel) ⟨Nat.le_of_ble_eq_true rfl, Nat.le_of_ble_eq_true rfl⟩, hg _ t_312, trivial⟩ ⟨qs_blind0, fun U hU hW => ⟨rfl, by rw [hU], hNs.warm hW⟩⟩ rfl rfl hl.1 rfl (lv_room (Nat.le_of_ble_eq_true rfl)) d_P_isSound_130 ⟨Nat.le_of_ble_eq_true rfl, Nat.le_of_ble_eq_true rfl⟩) hP hD hS hA (fun H locs hP hS => ?_)
        refine lv_if_eq (tgt := 140) hx hb d_P_isSound_133 (by decide) (fun c12 => ?_) (fun c12 => ?_)
        · have hF := qs_pos c12 hF
          refine lv_iconst (v := 0) hx hb d_P_isSound_140 (by decide) ?_
          have h9 := Option.some.inj hF
          exact W.zret (ty := .boolean) (v := 0) hx hb hr rfl (fun t ht hW => ⟨⟨0, (), rfl, h9, trivial⟩, hS.F ht⟩) hS.2.2 d_P_isSound_141
        · have hF := qs_neg c12 hF
          refine lv_iconst (v := 1) hx hb d_P_isSound_136 (by decide) ?_
          refine lv_goto (tgt := 141) hx hb d_P_isSound_137 (by decide) ?_
          have h9 := Option.some.inj hF
          exact W.zret (ty := .boolean) (v := 1) hx hb hr rfl (fun t ht hW => ⟨⟨1, (), rfl, h9, trivial⟩, hS.F ht⟩) hS.2.2 d_P_isSound_141
  have hF := qs_neg c6 hF
  by_cases c13 : a1 = 2
  · have hF := qs_pos c13 hF
    refine lv_tableIn (tgt := 109) hx hb d_P_isSound_1 (by rw [c13]; decide) (by rw [c13]; decide) (by rw [c13]; rfl) (by decide) ?_
    refine lv_iload_n hx hb d_P_isSound_109 rfl (lv_at hl 1 rfl) ?_
    refine lv_bipush (v := 24) hx hb d_P_isSound_110 (by decide) ?_
    obtain ⟨r14, hX, hF⟩ := qs_pb_some hF
    refine qs_psi (va_runSN (own := "QuakeServer$Program") (As := [.int (a2), .int (24)]) (rest := []) ⟨hx, hb, hml, hown, hg⟩ (c_Q_isBelow l H.size (a2) (24) r14 hX) ⟨va_cnB (own := "QuakeServer$Program") (index := 18) (host := "QuakeServer") 2 hg (qs_gc t_313) rfl rfl rfl (nM_3 hNs) (hg _ t_1) (by decide +kernel) ⟨Nat.le_of_ble_eq_true rfl, Nat.le_of_ble_eq_true rfl⟩, hg _ t_312, trivial⟩ ⟨qs_blind0, fun U hU hW => ⟨rfl, by rw [hU], hNs.warm hW⟩⟩ rfl rfl hl.1 rfl (lv_room (Nat.le_of_ble_eq_true rfl)) d_P_isSound_112 ⟨Nat.le_of_ble_eq_true rfl, Nat.le_of_ble_eq_true rfl⟩) hP hD hS hA (fun H locs hP hS => ?_)
    refine lv_if_eq (tgt := 140) hx hb d_P_isSound_115 (by decide) (fun c15 => ?_) (fun c15 => ?_)
    · have hF := qs_pos c15 hF
      refine lv_iconst (v := 0) hx hb d_P_isSound_140 (by decide) ?_
      have h9 := Option.some.inj hF
      exact W.zret (ty := .boolean) (v := 0) hx hb hr rfl (fun t ht hW => ⟨⟨0, (), rfl, h9, trivial⟩, hS.F ht⟩) hS.2.2 d_P_isSound_141
    · have hF := qs_neg c15 hF
      refine lv_iload_n hx hb d_P_isSound_118 rfl (lv_at hl 2 rfl) ?_
      refine lv_bipush (v := 24) hx hb d_P_isSound_119 (by decide) ?_
      obtain ⟨r16, hX, hF⟩ := qs_pb_some hF
      refine qs_psi (va_runSN (own := "QuakeServer$Program") (As := [.int (a3), .int (24)]) (rest := []) ⟨hx, hb, hml, hown, hg⟩ (c_Q_isBelow l H.size (a3) (24) r16 hX) ⟨va_cnB (own := "QuakeServer$Program") (index := 18) (host := "QuakeServer") 2 hg (qs_gc t_313) rfl rfl rfl (nM_3 hNs) (hg _ t_1) (by decide +kernel) ⟨Nat.le_of_ble_eq_true rfl, Nat.le_of_ble_eq_true rfl⟩, hg _ t_312, trivial⟩ ⟨qs_blind0, fun U hU hW => ⟨rfl, by rw [hU], hNs.warm hW⟩⟩ rfl rfl hl.1 rfl (lv_room (Nat.le_of_ble_eq_true rfl)) d_P_isSound_121 ⟨Nat.le_of_ble_eq_true rfl, Nat.le_of_ble_eq_true rfl⟩) hP hD hS hA (fun H locs hP hS => ?_)
      refine lv_if_eq (tgt := 140) hx hb d_P_isSound_124 (by decide) (fun c17 => ?_) (fun c17 => ?_)
      · have hF := qs_pos c17 hF
        refine lv_iconst (v := 0) hx hb d_P_isSound_140 (by decide) ?_
        have h9 := Option.some.inj hF
        exact W.zret (ty := .boolean) (v := 0) hx hb hr rfl (fun t ht hW => ⟨⟨0, (), rfl, h9, trivial⟩, hS.F ht⟩) hS.2.2 d_P_isSound_141
      · have hF := qs_neg c17 hF
        refine lv_iload_n hx hb d_P_isSound_127 rfl (lv_at hl 3 rfl) ?_
        refine lv_bipush (v := 24) hx hb d_P_isSound_128 (by decide) ?_
        obtain ⟨r18, hX, hF⟩ := qs_pb_some hF
        refine qs_psi (va_runSN (own := "QuakeServer$Program") (As := [.int (a4), .int (24)]) (rest := []) ⟨hx, hb, hml, hown, hg⟩ (c_Q_isBelow l H.size (a4) (24) r18 hX) ⟨va_cnB (own := "QuakeServer$Program") (index := 18) (host := "QuakeServer") 2 hg (qs_gc t_313) rfl rfl rfl (nM_3 hNs) (hg _ t_1) (by decide +kernel) ⟨Nat.le_of_ble_eq_true rfl, Nat.le_of_ble_eq_true rfl⟩, hg _ t_312, trivial⟩ ⟨qs_blind0, fun U hU hW => ⟨rfl, by rw [hU], hNs.warm hW⟩⟩ rfl rfl hl.1 rfl (lv_room (Nat.le_of_ble_eq_true rfl)) d_P_isSound_130 ⟨Nat.le_of_ble_eq_true rfl, Nat.le_of_ble_eq_true rfl⟩) hP hD hS hA (fun H locs hP hS => ?_)
        refine lv_if_eq (tgt := 140) hx hb d_P_isSound_133 (by decide) (fun c19 => ?_) (fun c19 => ?_)
        · have hF := qs_pos c19 hF
          refine lv_iconst (v := 0) hx hb d_P_isSound_140 (by decide) ?_
          have h9 := Option.some.inj hF
          exact W.zret (ty := .boolean) (v := 0) hx hb hr rfl (fun t ht hW => ⟨⟨0, (), rfl, h9, trivial⟩, hS.F ht⟩) hS.2.2 d_P_isSound_141
        · have hF := qs_neg c19 hF
          refine lv_iconst (v := 1) hx hb d_P_isSound_136 (by decide) ?_
          refine lv_goto (tgt := 141) hx hb d_P_isSound_137 (by decide) ?_
          have h9 := Option.some.inj hF
          exact W.zret (ty := .boolean) (v := 1) hx hb hr rfl (fun t ht hW => ⟨⟨1, (), rfl, h9, trivial⟩, hS.F ht⟩) hS.2.2 d_P_isSound_141
  have hF := qs_neg c13 hF
  by_cases c20 : a1 = 3
  · have hF := qs_pos c20 hF
    refine lv_tableIn (tgt := 109) hx hb d_P_isSound_1 (by rw [c20]; decide) (by rw [c20]; decide) (by rw [c20]; rfl) (by decide) ?_
    refine lv_iload_n hx hb d_P_isSound_109 rfl (lv_at hl 1 rfl) ?_
    refine lv_bipush (v := 24) hx hb d_P_isSound_110 (by decide) ?_
    obtain ⟨r21, hX, hF⟩ := qs_pb_some hF
    refine qs_psi (va_runSN (own := "QuakeServer$Program") (As := [.int (a2), .int (24)]) (rest := []) ⟨hx, hb, hml, hown, hg⟩ (c_Q_isBelow l H.size (a2) (24) r21 hX) ⟨va_cnB (own := "QuakeServer$Program") (index := 18) (host := "QuakeServer") 2 hg (qs_gc t_313) rfl rfl rfl (nM_3 hNs) (hg _ t_1) (by decide +kernel) ⟨Nat.le_of_ble_eq_true rfl, Nat.le_of_ble_eq_true rfl⟩, hg _ t_312, trivial⟩ ⟨qs_blind0, fun U hU hW => ⟨rfl, by rw [hU], hNs.warm hW⟩⟩ rfl rfl hl.1 rfl (lv_room (Nat.le_of_ble_eq_true rfl)) d_P_isSound_112 ⟨Nat.le_of_ble_eq_true rfl, Nat.le_of_ble_eq_true rfl⟩) hP hD hS hA (fun H locs hP hS => ?_)
    refine lv_if_eq (tgt := 140) hx hb d_P_isSound_115 (by decide) (fun c22 => ?_) (fun c22 => ?_)
    · have hF := qs_pos c22 hF
      refine lv_iconst (v := 0) hx hb d_P_isSound_140 (by decide) ?_
      have h9 := Option.some.inj hF
      exact W.zret (ty := .boolean) (v := 0) hx hb hr rfl (fun t ht hW => ⟨⟨0, (), rfl, h9, trivial⟩, hS.F ht⟩) hS.2.2 d_P_isSound_141
    · have hF := qs_neg c22 hF
      refine lv_iload_n hx hb d_P_isSound_118 rfl (lv_at hl 2 rfl) ?_
      refine lv_bipush (v := 24) hx hb d_P_isSound_119 (by decide) ?_
      obtain ⟨r23, hX, hF⟩ := qs_pb_some hF
      refine qs_psi (va_runSN (own := "QuakeServer$Program") (As := [.int (a3), .int (24)]) (rest := []) ⟨hx, hb, hml, hown, hg⟩ (c_Q_isBelow l H.size (a3) (24) r23 hX) ⟨va_cnB (own := "QuakeServer$Program") (index := 18) (host := "QuakeServer") 2 hg (qs_gc t_313) rfl rfl rfl (nM_3 hNs) (hg _ t_1) (by decide +kernel) ⟨Nat.le_of_ble_eq_true rfl, Nat.le_of_ble_eq_true rfl⟩, hg _ t_312, trivial⟩ ⟨qs_blind0, fun U hU hW => ⟨rfl, by rw [hU], hNs.warm hW⟩⟩ rfl rfl hl.1 rfl (lv_room (Nat.le_of_ble_eq_true rfl)) d_P_isSound_121 ⟨Nat.le_of_ble_eq_true rfl, Nat.le_of_ble_eq_true rfl⟩) hP hD hS hA (fun H locs hP hS => ?_)
      refine lv_if_eq (tgt := 140) hx hb d_P_isSound_124 (by decide) (fun c24 => ?_) (fun c24 => ?_)
      · have hF := qs_pos c24 hF
        refine lv_iconst (v := 0) hx hb d_P_isSound_140 (by decide) ?_
        have h9 := Option.some.inj hF
        exact W.zret (ty := .boolean) (v := 0) hx hb hr rfl (fun t ht hW => ⟨⟨0, (), rfl, h9, trivial⟩, hS.F ht⟩) hS.2.2 d_P_isSound_141
      · have hF := qs_neg c24 hF
        refine lv_iload_n hx hb d_P_isSound_127 rfl (lv_at hl 3 rfl) ?_
        refine lv_bipush (v := 24) hx hb d_P_isSound_128 (by decide) ?_
        obtain ⟨r25, hX, hF⟩ := qs_pb_some hF
        refine qs_psi (va_runSN (own := "QuakeServer$Program") (As := [.int (a4), .int (24)]) (rest := []) ⟨hx, hb, hml, hown, hg⟩ (c_Q_isBelow l H.size (a4) (24) r25 hX) ⟨va_cnB (own := "QuakeServer$Program") (index := 18) (host := "QuakeServer") 2 hg (qs_gc t_313) rfl rfl rfl (nM_3 hNs) (hg _ t_1) (by decide +kernel) ⟨Nat.le_of_ble_eq_true rfl, Nat.le_of_ble_eq_true rfl⟩, hg _ t_312, trivial⟩ ⟨qs_blind0, fun U hU hW => ⟨rfl, by rw [hU], hNs.warm hW⟩⟩ rfl rfl hl.1 rfl (lv_room (Nat.le_of_ble_eq_true rfl)) d_P_isSound_130 ⟨Nat.le_of_ble_eq_true rfl, Nat.le_of_ble_eq_true rfl⟩) hP hD hS hA (fun H locs hP hS => ?_)
        refine lv_if_eq (tgt := 140) hx hb d_P_isSound_133 (by decide) (fun c26 => ?_) (fun c26 => ?_)
        · have hF := qs_pos c26 hF
          refine lv_iconst (v := 0) hx hb d_P_isSound_140 (by decide) ?_
          have h9 := Option.some.inj hF
          exact W.zret (ty := .boolean) (v := 0) hx hb hr rfl (fun t ht hW => ⟨⟨0, (), rfl, h9, trivial⟩, hS.F ht⟩) hS.2.2 d_P_isSound_141
        · have hF := qs_neg c26 hF
          refine lv_iconst (v := 1) hx hb d_P_isSound_136 (by decide) ?_
          refine lv_goto (tgt := 141) hx hb d_P_isSound_137 (by decide) ?_
          have h9 := Option.some.inj hF
          exact W.zret (ty := .boolean) (v := 1) hx hb hr rfl (fun t ht hW => ⟨⟨1, (), rfl, h9, trivial⟩, hS.F ht⟩) hS.2.2 d_P_isSound_141
  have hF := qs_neg c20 hF
  by_cases c27 : a1 = 4
  · have hF := qs_pos c27 hF
    refine lv_tableIn (tgt := 109) hx hb d_P_isSound_1 (by rw [c27]; decide) (by rw [c27]; decide) (by rw [c27]; rfl) (by decide) ?_
    refine lv_iload_n hx hb d_P_isSound_109 rfl (lv_at hl 1 rfl) ?_
    refine lv_bipush (v := 24) hx hb d_P_isSound_110 (by decide) ?_
    obtain ⟨r28, hX, hF⟩ := qs_pb_some hF
    refine qs_psi (va_runSN (own := "QuakeServer$Program") (As := [.int (a2), .int (24)]) (rest := []) ⟨hx, hb, hml, hown, hg⟩ (c_Q_isBelow l H.size (a2) (24) r28 hX) ⟨va_cnB (own := "QuakeServer$Program") (index := 18) (host := "QuakeServer") 2 hg (qs_gc t_313) rfl rfl rfl (nM_3 hNs) (hg _ t_1) (by decide +kernel) ⟨Nat.le_of_ble_eq_true rfl, Nat.le_of_ble_eq_true rfl⟩, hg _ t_312, trivial⟩ ⟨qs_blind0, fun U hU hW => ⟨rfl, by rw [hU], hNs.warm hW⟩⟩ rfl rfl hl.1 rfl (lv_room (Nat.le_of_ble_eq_true rfl)) d_P_isSound_112 ⟨Nat.le_of_ble_eq_true rfl, Nat.le_of_ble_eq_true rfl⟩) hP hD hS hA (fun H locs hP hS => ?_)
    refine lv_if_eq (tgt := 140) hx hb d_P_isSound_115 (by decide) (fun c29 => ?_) (fun c29 => ?_)
    · have hF := qs_pos c29 hF
      refine lv_iconst (v := 0) hx hb d_P_isSound_140 (by decide) ?_
      have h9 := Option.some.inj hF
      exact W.zret (ty := .boolean) (v := 0) hx hb hr rfl (fun t ht hW => ⟨⟨0, (), rfl, h9, trivial⟩, hS.F ht⟩) hS.2.2 d_P_isSound_141
    · have hF := qs_neg c29 hF
      refine lv_iload_n hx hb d_P_isSound_118 rfl (lv_at hl 2 rfl) ?_
      refine lv_bipush (v := 24) hx hb d_P_isSound_119 (by decide) ?_
      obtain ⟨r30, hX, hF⟩ := qs_pb_some hF
      refine qs_psi (va_runSN (own := "QuakeServer$Program") (As := [.int (a3), .int (24)]) (rest := []) ⟨hx, hb, hml, hown, hg⟩ (c_Q_isBelow l H.size (a3) (24) r30 hX) ⟨va_cnB (own := "QuakeServer$Program") (index := 18) (host := "QuakeServer") 2 hg (qs_gc t_313) rfl rfl rfl (nM_3 hNs) (hg _ t_1) (by decide +kernel) ⟨Nat.le_of_ble_eq_true rfl, Nat.le_of_ble_eq_true rfl⟩, hg _ t_312, trivial⟩ ⟨qs_blind0, fun U hU hW => ⟨rfl, by rw [hU], hNs.warm hW⟩⟩ rfl rfl hl.1 rfl (lv_room (Nat.le_of_ble_eq_true rfl)) d_P_isSound_121 ⟨Nat.le_of_ble_eq_true rfl, Nat.le_of_ble_eq_true rfl⟩) hP hD hS hA (fun H locs hP hS => ?_)
      refine lv_if_eq (tgt := 140) hx hb d_P_isSound_124 (by decide) (fun c31 => ?_) (fun c31 => ?_)
      · have hF := qs_pos c31 hF
        refine lv_iconst (v := 0) hx hb d_P_isSound_140 (by decide) ?_
        have h9 := Option.some.inj hF
        exact W.zret (ty := .boolean) (v := 0) hx hb hr rfl (fun t ht hW => ⟨⟨0, (), rfl, h9, trivial⟩, hS.F ht⟩) hS.2.2 d_P_isSound_141
      · have hF := qs_neg c31 hF
        refine lv_iload_n hx hb d_P_isSound_127 rfl (lv_at hl 3 rfl) ?_
        refine lv_bipush (v := 24) hx hb d_P_isSound_128 (by decide) ?_
        obtain ⟨r32, hX, hF⟩ := qs_pb_some hF
        refine qs_psi (va_runSN (own := "QuakeServer$Program") (As := [.int (a4), .int (24)]) (rest := []) ⟨hx, hb, hml, hown, hg⟩ (c_Q_isBelow l H.size (a4) (24) r32 hX) ⟨va_cnB (own := "QuakeServer$Program") (index := 18) (host := "QuakeServer") 2 hg (qs_gc t_313) rfl rfl rfl (nM_3 hNs) (hg _ t_1) (by decide +kernel) ⟨Nat.le_of_ble_eq_true rfl, Nat.le_of_ble_eq_true rfl⟩, hg _ t_312, trivial⟩ ⟨qs_blind0, fun U hU hW => ⟨rfl, by rw [hU], hNs.warm hW⟩⟩ rfl rfl hl.1 rfl (lv_room (Nat.le_of_ble_eq_true rfl)) d_P_isSound_130 ⟨Nat.le_of_ble_eq_true rfl, Nat.le_of_ble_eq_true rfl⟩) hP hD hS hA (fun H locs hP hS => ?_)
        refine lv_if_eq (tgt := 140) hx hb d_P_isSound_133 (by decide) (fun c33 => ?_) (fun c33 => ?_)
        · have hF := qs_pos c33 hF
          refine lv_iconst (v := 0) hx hb d_P_isSound_140 (by decide) ?_
          have h9 := Option.some.inj hF
          exact W.zret (ty := .boolean) (v := 0) hx hb hr rfl (fun t ht hW => ⟨⟨0, (), rfl, h9, trivial⟩, hS.F ht⟩) hS.2.2 d_P_isSound_141
        · have hF := qs_neg c33 hF
          refine lv_iconst (v := 1) hx hb d_P_isSound_136 (by decide) ?_
          refine lv_goto (tgt := 141) hx hb d_P_isSound_137 (by decide) ?_
          have h9 := Option.some.inj hF
          exact W.zret (ty := .boolean) (v := 1) hx hb hr rfl (fun t ht hW => ⟨⟨1, (), rfl, h9, trivial⟩, hS.F ht⟩) hS.2.2 d_P_isSound_141
  have hF := qs_neg c27 hF
  by_cases c34 : a1 = 5
  · have hF := qs_pos c34 hF
    refine lv_tableIn (tgt := 109) hx hb d_P_isSound_1 (by rw [c34]; decide) (by rw [c34]; decide) (by rw [c34]; rfl) (by decide) ?_
    refine lv_iload_n hx hb d_P_isSound_109 rfl (lv_at hl 1 rfl) ?_
    refine lv_bipush (v := 24) hx hb d_P_isSound_110 (by decide) ?_
    obtain ⟨r35, hX, hF⟩ := qs_pb_some hF
    refine qs_psi (va_runSN (own := "QuakeServer$Program") (As := [.int (a2), .int (24)]) (rest := []) ⟨hx, hb, hml, hown, hg⟩ (c_Q_isBelow l H.size (a2) (24) r35 hX) ⟨va_cnB (own := "QuakeServer$Program") (index := 18) (host := "QuakeServer") 2 hg (qs_gc t_313) rfl rfl rfl (nM_3 hNs) (hg _ t_1) (by decide +kernel) ⟨Nat.le_of_ble_eq_true rfl, Nat.le_of_ble_eq_true rfl⟩, hg _ t_312, trivial⟩ ⟨qs_blind0, fun U hU hW => ⟨rfl, by rw [hU], hNs.warm hW⟩⟩ rfl rfl hl.1 rfl (lv_room (Nat.le_of_ble_eq_true rfl)) d_P_isSound_112 ⟨Nat.le_of_ble_eq_true rfl, Nat.le_of_ble_eq_true rfl⟩) hP hD hS hA (fun H locs hP hS => ?_)
    refine lv_if_eq (tgt := 140) hx hb d_P_isSound_115 (by decide) (fun c36 => ?_) (fun c36 => ?_)
    · have hF := qs_pos c36 hF
      refine lv_iconst (v := 0) hx hb d_P_isSound_140 (by decide) ?_
      have h9 := Option.some.inj hF
      exact W.zret (ty := .boolean) (v := 0) hx hb hr rfl (fun t ht hW => ⟨⟨0, (), rfl, h9, trivial⟩, hS.F ht⟩) hS.2.2 d_P_isSound_141
    · have hF := qs_neg c36 hF
      refine lv_iload_n hx hb d_P_isSound_118 rfl (lv_at hl 2 rfl) ?_
      refine lv_bipush (v := 24) hx hb d_P_isSound_119 (by decide) ?_
      obtain ⟨r37, hX, hF⟩ := qs_pb_some hF
      refine qs_psi (va_runSN (own := "QuakeServer$Program") (As := [.int (a3), .int (24)]) (rest := []) ⟨hx, hb, hml, hown, hg⟩ (c_Q_isBelow l H.size (a3) (24) r37 hX) ⟨va_cnB (own := "QuakeServer$Program") (index := 18) (host := "QuakeServer") 2 hg (qs_gc t_313) rfl rfl rfl (nM_3 hNs) (hg _ t_1) (by decide +kernel) ⟨Nat.le_of_ble_eq_true rfl, Nat.le_of_ble_eq_true rfl⟩, hg _ t_312, trivial⟩ ⟨qs_blind0, fun U hU hW => ⟨rfl, by rw [hU], hNs.warm hW⟩⟩ rfl rfl hl.1 rfl (lv_room (Nat.le_of_ble_eq_true rfl)) d_P_isSound_121 ⟨Nat.le_of_ble_eq_true rfl, Nat.le_of_ble_eq_true rfl⟩) hP hD hS hA (fun H locs hP hS => ?_)
      refine lv_if_eq (tgt := 140) hx hb d_P_isSound_124 (by decide) (fun c38 => ?_) (fun c38 => ?_)
      · have hF := qs_pos c38 hF
        refine lv_iconst (v := 0) hx hb d_P_isSound_140 (by decide) ?_
        have h9 := Option.some.inj hF
        exact W.zret (ty := .boolean) (v := 0) hx hb hr rfl (fun t ht hW => ⟨⟨0, (), rfl, h9, trivial⟩, hS.F ht⟩) hS.2.2 d_P_isSound_141
      · have hF := qs_neg c38 hF
        refine lv_iload_n hx hb d_P_isSound_127 rfl (lv_at hl 3 rfl) ?_
        refine lv_bipush (v := 24) hx hb d_P_isSound_128 (by decide) ?_
        obtain ⟨r39, hX, hF⟩ := qs_pb_some hF
        refine qs_psi (va_runSN (own := "QuakeServer$Program") (As := [.int (a4), .int (24)]) (rest := []) ⟨hx, hb, hml, hown, hg⟩ (c_Q_isBelow l H.size (a4) (24) r39 hX) ⟨va_cnB (own := "QuakeServer$Program") (index := 18) (host := "QuakeServer") 2 hg (qs_gc t_313) rfl rfl rfl (nM_3 hNs) (hg _ t_1) (by decide +kernel) ⟨Nat.le_of_ble_eq_true rfl, Nat.le_of_ble_eq_true rfl⟩, hg _ t_312, trivial⟩ ⟨qs_blind0, fun U hU hW => ⟨rfl, by rw [hU], hNs.warm hW⟩⟩ rfl rfl hl.1 rfl (lv_room (Nat.le_of_ble_eq_true rfl)) d_P_isSound_130 ⟨Nat.le_of_ble_eq_true rfl, Nat.le_of_ble_eq_true rfl⟩) hP hD hS hA (fun H locs hP hS => ?_)
        refine lv_if_eq (tgt := 140) hx hb d_P_isSound_133 (by decide) (fun c40 => ?_) (fun c40 => ?_)
        · have hF := qs_pos c40 hF
          refine lv_iconst (v := 0) hx hb d_P_isSound_140 (by decide) ?_
          have h9 := Option.some.inj hF
          exact W.zret (ty := .boolean) (v := 0) hx hb hr rfl (fun t ht hW => ⟨⟨0, (), rfl, h9, trivial⟩, hS.F ht⟩) hS.2.2 d_P_isSound_141
        · have hF := qs_neg c40 hF
          refine lv_iconst (v := 1) hx hb d_P_isSound_136 (by decide) ?_
          refine lv_goto (tgt := 141) hx hb d_P_isSound_137 (by decide) ?_
          have h9 := Option.some.inj hF
          exact W.zret (ty := .boolean) (v := 1) hx hb hr rfl (fun t ht hW => ⟨⟨1, (), rfl, h9, trivial⟩, hS.F ht⟩) hS.2.2 d_P_isSound_141
  have hF := qs_neg c34 hF
  by_cases c41 : a1 = 6
  · have hF := qs_pos c41 hF
    refine lv_tableIn (tgt := 175) hx hb d_P_isSound_1 (by rw [c41]; decide) (by rw [c41]; decide) (by rw [c41]; rfl) (by decide) ?_
    refine lv_iload_n hx hb d_P_isSound_175 rfl (lv_at hl 1 rfl) ?_
    refine lv_bipush (v := 24) hx hb d_P_isSound_176 (by decide) ?_
    obtain ⟨r42, hX, hF⟩ := qs_pb_some hF
    refine qs_psi (va_runSN (own := "QuakeServer$Program") (As := [.int (a2), .int (24)]) (rest := []) ⟨hx, hb, hml, hown, hg⟩ (c_Q_isBelow l H.size (a2) (24) r42 hX) ⟨va_cnB (own := "QuakeServer$Program") (index := 18) (host := "QuakeServer") 2 hg (qs_gc t_313) rfl rfl rfl (nM_3 hNs) (hg _ t_1) (by decide +kernel) ⟨Nat.le_of_ble_eq_true rfl, Nat.le_of_ble_eq_true rfl⟩, hg _ t_312, trivial⟩ ⟨qs_blind0, fun U hU hW => ⟨rfl, by rw [hU], hNs.warm hW⟩⟩ rfl rfl hl.1 rfl (lv_room (Nat.le_of_ble_eq_true rfl)) d_P_isSound_178 ⟨Nat.le_of_ble_eq_true rfl, Nat.le_of_ble_eq_true rfl⟩) hP hD hS hA (fun H locs hP hS => ?_)
    refine lv_if_eq (tgt := 197) hx hb d_P_isSound_181 (by decide) (fun c43 => ?_) (fun c43 => ?_)
    · have hF := qs_pos c43 hF
      refine lv_iconst (v := 0) hx hb d_P_isSound_197 (by decide) ?_
      have h9 := Option.some.inj hF
      exact W.zret (ty := .boolean) (v := 0) hx hb hr rfl (fun t ht hW => ⟨⟨0, (), rfl, h9, trivial⟩, hS.F ht⟩) hS.2.2 d_P_isSound_198
    · have hF := qs_neg c43 hF
      refine lv_iload_n hx hb d_P_isSound_184 rfl (lv_at hl 3 rfl) ?_
      refine lv_bipush (v := 24) hx hb d_P_isSound_185 (by decide) ?_
      obtain ⟨r44, hX, hF⟩ := qs_pb_some hF
      refine qs_psi (va_runSN (own := "QuakeServer$Program") (As := [.int (a4), .int (24)]) (rest := []) ⟨hx, hb, hml, hown, hg⟩ (c_Q_isBelow l H.size (a4) (24) r44 hX) ⟨va_cnB (own := "QuakeServer$Program") (index := 18) (host := "QuakeServer") 2 hg (qs_gc t_313) rfl rfl rfl (nM_3 hNs) (hg _ t_1) (by decide +kernel) ⟨Nat.le_of_ble_eq_true rfl, Nat.le_of_ble_eq_true rfl⟩, hg _ t_312, trivial⟩ ⟨qs_blind0, fun U hU hW => ⟨rfl, by rw [hU], hNs.warm hW⟩⟩ rfl rfl hl.1 rfl (lv_room (Nat.le_of_ble_eq_true rfl)) d_P_isSound_187 ⟨Nat.le_of_ble_eq_true rfl, Nat.le_of_ble_eq_true rfl⟩) hP hD hS hA (fun H locs hP hS => ?_)
      refine lv_if_eq (tgt := 197) hx hb d_P_isSound_190 (by decide) (fun c45 => ?_) (fun c45 => ?_)
      · have hF := qs_pos c45 hF
        refine lv_iconst (v := 0) hx hb d_P_isSound_197 (by decide) ?_
        have h9 := Option.some.inj hF
        exact W.zret (ty := .boolean) (v := 0) hx hb hr rfl (fun t ht hW => ⟨⟨0, (), rfl, h9, trivial⟩, hS.F ht⟩) hS.2.2 d_P_isSound_198
      · have hF := qs_neg c45 hF
        refine lv_iconst (v := 1) hx hb d_P_isSound_193 (by decide) ?_
        refine lv_goto (tgt := 198) hx hb d_P_isSound_194 (by decide) ?_
        have h9 := Option.some.inj hF
        exact W.zret (ty := .boolean) (v := 1) hx hb hr rfl (fun t ht hW => ⟨⟨1, (), rfl, h9, trivial⟩, hS.F ht⟩) hS.2.2 d_P_isSound_198
  have hF := qs_neg c41 hF
  by_cases c46 : a1 = 7
  · have hF := qs_pos c46 hF
    refine lv_tableIn (tgt := 142) hx hb d_P_isSound_1 (by rw [c46]; decide) (by rw [c46]; decide) (by rw [c46]; rfl) (by decide) ?_
    refine lv_iload_n hx hb d_P_isSound_142 rfl (lv_at hl 1 rfl) ?_
    refine lv_bipush (v := 24) hx hb d_P_isSound_143 (by decide) ?_
    obtain ⟨r47, hX, hF⟩ := qs_pb_some hF
    refine qs_psi (va_runSN (own := "QuakeServer$Program") (As := [.int (a2), .int (24)]) (rest := []) ⟨hx, hb, hml, hown, hg⟩ (c_Q_isBelow l H.size (a2) (24) r47 hX) ⟨va_cnB (own := "QuakeServer$Program") (index := 18) (host := "QuakeServer") 2 hg (qs_gc t_313) rfl rfl rfl (nM_3 hNs) (hg _ t_1) (by decide +kernel) ⟨Nat.le_of_ble_eq_true rfl, Nat.le_of_ble_eq_true rfl⟩, hg _ t_312, trivial⟩ ⟨qs_blind0, fun U hU hW => ⟨rfl, by rw [hU], hNs.warm hW⟩⟩ rfl rfl hl.1 rfl (lv_room (Nat.le_of_ble_eq_true rfl)) d_P_isSound_145 ⟨Nat.le_of_ble_eq_true rfl, Nat.le_of_ble_eq_true rfl⟩) hP hD hS hA (fun H locs hP hS => ?_)
    refine lv_if_eq (tgt := 173) hx hb d_P_isSound_148 (by decide) (fun c48 => ?_) (fun c48 => ?_)
    · have hF := qs_pos c48 hF
      refine lv_iconst (v := 0) hx hb d_P_isSound_173 (by decide) ?_
      have h9 := Option.some.inj hF
      exact W.zret (ty := .boolean) (v := 0) hx hb hr rfl (fun t ht hW => ⟨⟨0, (), rfl, h9, trivial⟩, hS.F ht⟩) hS.2.2 d_P_isSound_174
    · have hF := qs_neg c48 hF
      refine lv_iload_n hx hb d_P_isSound_151 rfl (lv_at hl 2 rfl) ?_
      refine lv_bipush (v := 16) hx hb d_P_isSound_152 (by decide) ?_
      obtain ⟨r49, hX, hF⟩ := qs_pb_some hF
      refine qs_psi (va_runSN (own := "QuakeServer$Program") (As := [.int (a3), .int (16)]) (rest := []) ⟨hx, hb, hml, hown, hg⟩ (c_Q_isBelow l H.size (a3) (16) r49 hX) ⟨va_cnB (own := "QuakeServer$Program") (index := 18) (host := "QuakeServer") 2 hg (qs_gc t_313) rfl rfl rfl (nM_3 hNs) (hg _ t_1) (by decide +kernel) ⟨Nat.le_of_ble_eq_true rfl, Nat.le_of_ble_eq_true rfl⟩, hg _ t_312, trivial⟩ ⟨qs_blind0, fun U hU hW => ⟨rfl, by rw [hU], hNs.warm hW⟩⟩ rfl rfl hl.1 rfl (lv_room (Nat.le_of_ble_eq_true rfl)) d_P_isSound_154 ⟨Nat.le_of_ble_eq_true rfl, Nat.le_of_ble_eq_true rfl⟩) hP hD hS hA (fun H locs hP hS => ?_)
      refine lv_if_eq (tgt := 173) hx hb d_P_isSound_157 (by decide) (fun c50 => ?_) (fun c50 => ?_)
      · have hF := qs_pos c50 hF
        refine lv_iconst (v := 0) hx hb d_P_isSound_173 (by decide) ?_
        have h9 := Option.some.inj hF
        exact W.zret (ty := .boolean) (v := 0) hx hb hr rfl (fun t ht hW => ⟨⟨0, (), rfl, h9, trivial⟩, hS.F ht⟩) hS.2.2 d_P_isSound_174
      · have hF := qs_neg c50 hF
        refine lv_iload_n hx hb d_P_isSound_160 rfl (lv_at hl 3 rfl) ?_
        refine lv_bipush (v := 24) hx hb d_P_isSound_161 (by decide) ?_
        obtain ⟨r51, hX, hF⟩ := qs_pb_some hF
        refine qs_psi (va_runSN (own := "QuakeServer$Program") (As := [.int (a4), .int (24)]) (rest := []) ⟨hx, hb, hml, hown, hg⟩ (c_Q_isBelow l H.size (a4) (24) r51 hX) ⟨va_cnB (own := "QuakeServer$Program") (index := 18) (host := "QuakeServer") 2 hg (qs_gc t_313) rfl rfl rfl (nM_3 hNs) (hg _ t_1) (by decide +kernel) ⟨Nat.le_of_ble_eq_true rfl, Nat.le_of_ble_eq_true rfl⟩, hg _ t_312, trivial⟩ ⟨qs_blind0, fun U hU hW => ⟨rfl, by rw [hU], hNs.warm hW⟩⟩ rfl rfl hl.1 rfl (lv_room (Nat.le_of_ble_eq_true rfl)) d_P_isSound_163 ⟨Nat.le_of_ble_eq_true rfl, Nat.le_of_ble_eq_true rfl⟩) hP hD hS hA (fun H locs hP hS => ?_)
        refine lv_if_eq (tgt := 173) hx hb d_P_isSound_166 (by decide) (fun c52 => ?_) (fun c52 => ?_)
        · have hF := qs_pos c52 hF
          refine lv_iconst (v := 0) hx hb d_P_isSound_173 (by decide) ?_
          have h9 := Option.some.inj hF
          exact W.zret (ty := .boolean) (v := 0) hx hb hr rfl (fun t ht hW => ⟨⟨0, (), rfl, h9, trivial⟩, hS.F ht⟩) hS.2.2 d_P_isSound_174
        · have hF := qs_neg c52 hF
          refine lv_iconst (v := 1) hx hb d_P_isSound_169 (by decide) ?_
          refine lv_goto (tgt := 174) hx hb d_P_isSound_170 (by decide) ?_
          have h9 := Option.some.inj hF
          exact W.zret (ty := .boolean) (v := 1) hx hb hr rfl (fun t ht hW => ⟨⟨1, (), rfl, h9, trivial⟩, hS.F ht⟩) hS.2.2 d_P_isSound_174
  have hF := qs_neg c46 hF
  by_cases c53 : a1 = 8
  · have hF := qs_pos c53 hF
    refine lv_tableIn (tgt := 142) hx hb d_P_isSound_1 (by rw [c53]; decide) (by rw [c53]; decide) (by rw [c53]; rfl) (by decide) ?_
    refine lv_iload_n hx hb d_P_isSound_142 rfl (lv_at hl 1 rfl) ?_
    refine lv_bipush (v := 24) hx hb d_P_isSound_143 (by decide) ?_
    obtain ⟨r54, hX, hF⟩ := qs_pb_some hF
    refine qs_psi (va_runSN (own := "QuakeServer$Program") (As := [.int (a2), .int (24)]) (rest := []) ⟨hx, hb, hml, hown, hg⟩ (c_Q_isBelow l H.size (a2) (24) r54 hX) ⟨va_cnB (own := "QuakeServer$Program") (index := 18) (host := "QuakeServer") 2 hg (qs_gc t_313) rfl rfl rfl (nM_3 hNs) (hg _ t_1) (by decide +kernel) ⟨Nat.le_of_ble_eq_true rfl, Nat.le_of_ble_eq_true rfl⟩, hg _ t_312, trivial⟩ ⟨qs_blind0, fun U hU hW => ⟨rfl, by rw [hU], hNs.warm hW⟩⟩ rfl rfl hl.1 rfl (lv_room (Nat.le_of_ble_eq_true rfl)) d_P_isSound_145 ⟨Nat.le_of_ble_eq_true rfl, Nat.le_of_ble_eq_true rfl⟩) hP hD hS hA (fun H locs hP hS => ?_)
    refine lv_if_eq (tgt := 173) hx hb d_P_isSound_148 (by decide) (fun c55 => ?_) (fun c55 => ?_)
    · have hF := qs_pos c55 hF
      refine lv_iconst (v := 0) hx hb d_P_isSound_173 (by decide) ?_
      have h9 := Option.some.inj hF
      exact W.zret (ty := .boolean) (v := 0) hx hb hr rfl (fun t ht hW => ⟨⟨0, (), rfl, h9, trivial⟩, hS.F ht⟩) hS.2.2 d_P_isSound_174
    · have hF := qs_neg c55 hF
      refine lv_iload_n hx hb d_P_isSound_151 rfl (lv_at hl 2 rfl) ?_
      refine lv_bipush (v := 16) hx hb d_P_isSound_152 (by decide) ?_
      obtain ⟨r56, hX, hF⟩ := qs_pb_some hF
      refine qs_psi (va_runSN (own := "QuakeServer$Program") (As := [.int (a3), .int (16)]) (rest := []) ⟨hx, hb, hml, hown, hg⟩ (c_Q_isBelow l H.size (a3) (16) r56 hX) ⟨va_cnB (own := "QuakeServer$Program") (index := 18) (host := "QuakeServer") 2 hg (qs_gc t_313) rfl rfl rfl (nM_3 hNs) (hg _ t_1) (by decide +kernel) ⟨Nat.le_of_ble_eq_true rfl, Nat.le_of_ble_eq_true rfl⟩, hg _ t_312, trivial⟩ ⟨qs_blind0, fun U hU hW => ⟨rfl, by rw [hU], hNs.warm hW⟩⟩ rfl rfl hl.1 rfl (lv_room (Nat.le_of_ble_eq_true rfl)) d_P_isSound_154 ⟨Nat.le_of_ble_eq_true rfl, Nat.le_of_ble_eq_true rfl⟩) hP hD hS hA (fun H locs hP hS => ?_)
      refine lv_if_eq (tgt := 173) hx hb d_P_isSound_157 (by decide) (fun c57 => ?_) (fun c57 => ?_)
      · have hF := qs_pos c57 hF
        refine lv_iconst (v := 0) hx hb d_P_isSound_173 (by decide) ?_
        have h9 := Option.some.inj hF
        exact W.zret (ty := .boolean) (v := 0) hx hb hr rfl (fun t ht hW => ⟨⟨0, (), rfl, h9, trivial⟩, hS.F ht⟩) hS.2.2 d_P_isSound_174
      · have hF := qs_neg c57 hF
        refine lv_iload_n hx hb d_P_isSound_160 rfl (lv_at hl 3 rfl) ?_
        refine lv_bipush (v := 24) hx hb d_P_isSound_161 (by decide) ?_
        obtain ⟨r58, hX, hF⟩ := qs_pb_some hF
        refine qs_psi (va_runSN (own := "QuakeServer$Program") (As := [.int (a4), .int (24)]) (rest := []) ⟨hx, hb, hml, hown, hg⟩ (c_Q_isBelow l H.size (a4) (24) r58 hX) ⟨va_cnB (own := "QuakeServer$Program") (index := 18) (host := "QuakeServer") 2 hg (qs_gc t_313) rfl rfl rfl (nM_3 hNs) (hg _ t_1) (by decide +kernel) ⟨Nat.le_of_ble_eq_true rfl, Nat.le_of_ble_eq_true rfl⟩, hg _ t_312, trivial⟩ ⟨qs_blind0, fun U hU hW => ⟨rfl, by rw [hU], hNs.warm hW⟩⟩ rfl rfl hl.1 rfl (lv_room (Nat.le_of_ble_eq_true rfl)) d_P_isSound_163 ⟨Nat.le_of_ble_eq_true rfl, Nat.le_of_ble_eq_true rfl⟩) hP hD hS hA (fun H locs hP hS => ?_)
        refine lv_if_eq (tgt := 173) hx hb d_P_isSound_166 (by decide) (fun c59 => ?_) (fun c59 => ?_)
        · have hF := qs_pos c59 hF
          refine lv_iconst (v := 0) hx hb d_P_isSound_173 (by decide) ?_
          have h9 := Option.some.inj hF
          exact W.zret (ty := .boolean) (v := 0) hx hb hr rfl (fun t ht hW => ⟨⟨0, (), rfl, h9, trivial⟩, hS.F ht⟩) hS.2.2 d_P_isSound_174
        · have hF := qs_neg c59 hF
          refine lv_iconst (v := 1) hx hb d_P_isSound_169 (by decide) ?_
          refine lv_goto (tgt := 174) hx hb d_P_isSound_170 (by decide) ?_
          have h9 := Option.some.inj hF
          exact W.zret (ty := .boolean) (v := 1) hx hb hr rfl (fun t ht hW => ⟨⟨1, (), rfl, h9, trivial⟩, hS.F ht⟩) hS.2.2 d_P_isSound_174
  have hF := qs_neg c53 hF
  by_cases c60 : a1 = 9
  · have hF := qs_pos c60 hF
    refine lv_tableIn (tgt := 199) hx hb d_P_isSound_1 (by rw [c60]; decide) (by rw [c60]; decide) (by rw [c60]; rfl) (by decide) ?_
    refine lv_iload_n hx hb d_P_isSound_199 rfl (lv_at hl 1 rfl) ?_
    refine lv_bipush (v := 24) hx hb d_P_isSound_200 (by decide) ?_
    obtain ⟨r61, hX, hF⟩ := qs_pb_some hF
    refine qs_psi (va_runSN (own := "QuakeServer$Program") (As := [.int (a2), .int (24)]) (rest := []) ⟨hx, hb, hml, hown, hg⟩ (c_Q_isBelow l H.size (a2) (24) r61 hX) ⟨va_cnB (own := "QuakeServer$Program") (index := 18) (host := "QuakeServer") 2 hg (qs_gc t_313) rfl rfl rfl (nM_3 hNs) (hg _ t_1) (by decide +kernel) ⟨Nat.le_of_ble_eq_true rfl, Nat.le_of_ble_eq_true rfl⟩, hg _ t_312, trivial⟩ ⟨qs_blind0, fun U hU hW => ⟨rfl, by rw [hU], hNs.warm hW⟩⟩ rfl rfl hl.1 rfl (lv_room (Nat.le_of_ble_eq_true rfl)) d_P_isSound_202 ⟨Nat.le_of_ble_eq_true rfl, Nat.le_of_ble_eq_true rfl⟩) hP hD hS hA (fun H locs hP hS => ?_)
    refine lv_if_eq (tgt := 221) hx hb d_P_isSound_205 (by decide) (fun c62 => ?_) (fun c62 => ?_)
    · have hF := qs_pos c62 hF
      refine lv_iconst (v := 0) hx hb d_P_isSound_221 (by decide) ?_
      have h9 := Option.some.inj hF
      exact W.zret (ty := .boolean) (v := 0) hx hb hr rfl (fun t ht hW => ⟨⟨0, (), rfl, h9, trivial⟩, hS.F ht⟩) hS.2.2 d_P_isSound_222
    · have hF := qs_neg c62 hF
      refine lv_iload_n hx hb d_P_isSound_208 rfl (lv_at hl 2 rfl) ?_
      refine lv_bipush (v := 14) hx hb d_P_isSound_209 (by decide) ?_
      obtain ⟨r63, hX, hF⟩ := qs_pb_some hF
      refine qs_psi (va_runSN (own := "QuakeServer$Program") (As := [.int (a3), .int (14)]) (rest := []) ⟨hx, hb, hml, hown, hg⟩ (c_Q_isBelow l H.size (a3) (14) r63 hX) ⟨va_cnB (own := "QuakeServer$Program") (index := 18) (host := "QuakeServer") 2 hg (qs_gc t_313) rfl rfl rfl (nM_3 hNs) (hg _ t_1) (by decide +kernel) ⟨Nat.le_of_ble_eq_true rfl, Nat.le_of_ble_eq_true rfl⟩, hg _ t_312, trivial⟩ ⟨qs_blind0, fun U hU hW => ⟨rfl, by rw [hU], hNs.warm hW⟩⟩ rfl rfl hl.1 rfl (lv_room (Nat.le_of_ble_eq_true rfl)) d_P_isSound_211 ⟨Nat.le_of_ble_eq_true rfl, Nat.le_of_ble_eq_true rfl⟩) hP hD hS hA (fun H locs hP hS => ?_)
      refine lv_if_eq (tgt := 221) hx hb d_P_isSound_214 (by decide) (fun c64 => ?_) (fun c64 => ?_)
      · have hF := qs_pos c64 hF
        refine lv_iconst (v := 0) hx hb d_P_isSound_221 (by decide) ?_
        have h9 := Option.some.inj hF
        exact W.zret (ty := .boolean) (v := 0) hx hb hr rfl (fun t ht hW => ⟨⟨0, (), rfl, h9, trivial⟩, hS.F ht⟩) hS.2.2 d_P_isSound_222
      · have hF := qs_neg c64 hF
        refine lv_iconst (v := 1) hx hb d_P_isSound_217 (by decide) ?_
        refine lv_goto (tgt := 222) hx hb d_P_isSound_218 (by decide) ?_
        have h9 := Option.some.inj hF
        exact W.zret (ty := .boolean) (v := 1) hx hb hr rfl (fun t ht hW => ⟨⟨1, (), rfl, h9, trivial⟩, hS.F ht⟩) hS.2.2 d_P_isSound_222
  have hF := qs_neg c60 hF
  by_cases c65 : a1 = 10
  · have hF := qs_pos c65 hF
    refine lv_tableIn (tgt := 223) hx hb d_P_isSound_1 (by rw [c65]; decide) (by rw [c65]; decide) (by rw [c65]; rfl) (by decide) ?_
    refine lv_iload_n hx hb d_P_isSound_223 rfl (lv_at hl 2 rfl) ?_
    refine lv_bipush (v := 14) hx hb d_P_isSound_224 (by decide) ?_
    obtain ⟨r66, hX, hF⟩ := qs_pb_some hF
    refine qs_psi (va_runSN (own := "QuakeServer$Program") (As := [.int (a3), .int (14)]) (rest := []) ⟨hx, hb, hml, hown, hg⟩ (c_Q_isBelow l H.size (a3) (14) r66 hX) ⟨va_cnB (own := "QuakeServer$Program") (index := 18) (host := "QuakeServer") 2 hg (qs_gc t_313) rfl rfl rfl (nM_3 hNs) (hg _ t_1) (by decide +kernel) ⟨Nat.le_of_ble_eq_true rfl, Nat.le_of_ble_eq_true rfl⟩, hg _ t_312, trivial⟩ ⟨qs_blind0, fun U hU hW => ⟨rfl, by rw [hU], hNs.warm hW⟩⟩ rfl rfl hl.1 rfl (lv_room (Nat.le_of_ble_eq_true rfl)) d_P_isSound_226 ⟨Nat.le_of_ble_eq_true rfl, Nat.le_of_ble_eq_true rfl⟩) hP hD hS hA (fun H locs hP hS => ?_)
    obtain ⟨c67, hF⟩ := qs_bo_some hF
    have h9 := Option.some.inj hF
    exact W.zret (ty := .boolean) (v := r66) hx hb hr c67 (fun t ht hW => ⟨⟨r66, (), rfl, h9, trivial⟩, hS.F ht⟩) hS.2.2 d_P_isSound_229
  have hF := qs_neg c65 hF
  by_cases c68 : a1 = 11
  · have hF := qs_pos c68 hF
    refine lv_tableIn (tgt := 230) hx hb d_P_isSound_1 (by rw [c68]; decide) (by rw [c68]; decide) (by rw [c68]; rfl) (by decide) ?_
    refine lv_iload_n hx hb d_P_isSound_230 rfl (lv_at hl 1 rfl) ?_
    refine lv_bipush (v := 6) hx hb d_P_isSound_231 (by decide) ?_
    obtain ⟨r69, hX, hF⟩ := qs_pb_some hF
    refine qs_psi (va_runSN (own := "QuakeServer$Program") (As := [.int (a2), .int (6)]) (rest := []) ⟨hx, hb, hml, hown, hg⟩ (c_Q_isBelow l H.size (a2) (6) r69 hX) ⟨va_cnB (own := "QuakeServer$Program") (index := 18) (host := "QuakeServer") 2 hg (qs_gc t_313) rfl rfl rfl (nM_3 hNs) (hg _ t_1) (by decide +kernel) ⟨Nat.le_of_ble_eq_true rfl, Nat.le_of_ble_eq_true rfl⟩, hg _ t_312, trivial⟩ ⟨qs_blind0, fun U hU hW => ⟨rfl, by rw [hU], hNs.warm hW⟩⟩ rfl rfl hl.1 rfl (lv_room (Nat.le_of_ble_eq_true rfl)) d_P_isSound_233 ⟨Nat.le_of_ble_eq_true rfl, Nat.le_of_ble_eq_true rfl⟩) hP hD hS hA (fun H locs hP hS => ?_)
    obtain ⟨c70, hF⟩ := qs_bo_some hF
    have h9 := Option.some.inj hF
    exact W.zret (ty := .boolean) (v := r69) hx hb hr c70 (fun t ht hW => ⟨⟨r69, (), rfl, h9, trivial⟩, hS.F ht⟩) hS.2.2 d_P_isSound_236
  have hF := qs_neg c68 hF
  by_cases c71 : a1 = 12
  · have hF := qs_pos c71 hF
    refine lv_tableIn (tgt := 244) hx hb d_P_isSound_1 (by rw [c71]; decide) (by rw [c71]; decide) (by rw [c71]; rfl) (by decide) ?_
    refine lv_iload_n hx hb d_P_isSound_244 rfl (lv_at hl 3 rfl) ?_
    refine lv_bipush (v := 24) hx hb d_P_isSound_245 (by decide) ?_
    obtain ⟨r72, hX, hF⟩ := qs_pb_some hF
    refine qs_psi (va_runSN (own := "QuakeServer$Program") (As := [.int (a4), .int (24)]) (rest := []) ⟨hx, hb, hml, hown, hg⟩ (c_Q_isBelow l H.size (a4) (24) r72 hX) ⟨va_cnB (own := "QuakeServer$Program") (index := 18) (host := "QuakeServer") 2 hg (qs_gc t_313) rfl rfl rfl (nM_3 hNs) (hg _ t_1) (by decide +kernel) ⟨Nat.le_of_ble_eq_true rfl, Nat.le_of_ble_eq_true rfl⟩, hg _ t_312, trivial⟩ ⟨qs_blind0, fun U hU hW => ⟨rfl, by rw [hU], hNs.warm hW⟩⟩ rfl rfl hl.1 rfl (lv_room (Nat.le_of_ble_eq_true rfl)) d_P_isSound_247 ⟨Nat.le_of_ble_eq_true rfl, Nat.le_of_ble_eq_true rfl⟩) hP hD hS hA (fun H locs hP hS => ?_)
    obtain ⟨c73, hF⟩ := qs_bo_some hF
    have h9 := Option.some.inj hF
    exact W.zret (ty := .boolean) (v := r72) hx hb hr c73 (fun t ht hW => ⟨⟨r72, (), rfl, h9, trivial⟩, hS.F ht⟩) hS.2.2 d_P_isSound_250
  have hF := qs_neg c71 hF
  by_cases c74 : a1 = 13
  · have hF := qs_pos c74 hF
    refine lv_tableIn (tgt := 237) hx hb d_P_isSound_1 (by rw [c74]; decide) (by rw [c74]; decide) (by rw [c74]; rfl) (by decide) ?_
    refine lv_iload_n hx hb d_P_isSound_237 rfl (lv_at hl 1 rfl) ?_
    refine lv_bipush (v := 24) hx hb d_P_isSound_238 (by decide) ?_
    obtain ⟨r75, hX, hF⟩ := qs_pb_some hF
    refine qs_psi (va_runSN (own := "QuakeServer$Program") (As := [.int (a2), .int (24)]) (rest := []) ⟨hx, hb, hml, hown, hg⟩ (c_Q_isBelow l H.size (a2) (24) r75 hX) ⟨va_cnB (own := "QuakeServer$Program") (index := 18) (host := "QuakeServer") 2 hg (qs_gc t_313) rfl rfl rfl (nM_3 hNs) (hg _ t_1) (by decide +kernel) ⟨Nat.le_of_ble_eq_true rfl, Nat.le_of_ble_eq_true rfl⟩, hg _ t_312, trivial⟩ ⟨qs_blind0, fun U hU hW => ⟨rfl, by rw [hU], hNs.warm hW⟩⟩ rfl rfl hl.1 rfl (lv_room (Nat.le_of_ble_eq_true rfl)) d_P_isSound_240 ⟨Nat.le_of_ble_eq_true rfl, Nat.le_of_ble_eq_true rfl⟩) hP hD hS hA (fun H locs hP hS => ?_)
    obtain ⟨c76, hF⟩ := qs_bo_some hF
    have h9 := Option.some.inj hF
    exact W.zret (ty := .boolean) (v := r75) hx hb hr c76 (fun t ht hW => ⟨⟨r75, (), rfl, h9, trivial⟩, hS.F ht⟩) hS.2.2 d_P_isSound_243
  have hF := qs_neg c74 hF
  by_cases c77 : a1 = 14
  · have hF := qs_pos c77 hF
    refine lv_tableIn (tgt := 175) hx hb d_P_isSound_1 (by rw [c77]; decide) (by rw [c77]; decide) (by rw [c77]; rfl) (by decide) ?_
    refine lv_iload_n hx hb d_P_isSound_175 rfl (lv_at hl 1 rfl) ?_
    refine lv_bipush (v := 24) hx hb d_P_isSound_176 (by decide) ?_
    obtain ⟨r78, hX, hF⟩ := qs_pb_some hF
    refine qs_psi (va_runSN (own := "QuakeServer$Program") (As := [.int (a2), .int (24)]) (rest := []) ⟨hx, hb, hml, hown, hg⟩ (c_Q_isBelow l H.size (a2) (24) r78 hX) ⟨va_cnB (own := "QuakeServer$Program") (index := 18) (host := "QuakeServer") 2 hg (qs_gc t_313) rfl rfl rfl (nM_3 hNs) (hg _ t_1) (by decide +kernel) ⟨Nat.le_of_ble_eq_true rfl, Nat.le_of_ble_eq_true rfl⟩, hg _ t_312, trivial⟩ ⟨qs_blind0, fun U hU hW => ⟨rfl, by rw [hU], hNs.warm hW⟩⟩ rfl rfl hl.1 rfl (lv_room (Nat.le_of_ble_eq_true rfl)) d_P_isSound_178 ⟨Nat.le_of_ble_eq_true rfl, Nat.le_of_ble_eq_true rfl⟩) hP hD hS hA (fun H locs hP hS => ?_)
    refine lv_if_eq (tgt := 197) hx hb d_P_isSound_181 (by decide) (fun c79 => ?_) (fun c79 => ?_)
    · have hF := qs_pos c79 hF
      refine lv_iconst (v := 0) hx hb d_P_isSound_197 (by decide) ?_
      have h9 := Option.some.inj hF
      exact W.zret (ty := .boolean) (v := 0) hx hb hr rfl (fun t ht hW => ⟨⟨0, (), rfl, h9, trivial⟩, hS.F ht⟩) hS.2.2 d_P_isSound_198
    · have hF := qs_neg c79 hF
      refine lv_iload_n hx hb d_P_isSound_184 rfl (lv_at hl 3 rfl) ?_
      refine lv_bipush (v := 24) hx hb d_P_isSound_185 (by decide) ?_
      obtain ⟨r80, hX, hF⟩ := qs_pb_some hF
      refine qs_psi (va_runSN (own := "QuakeServer$Program") (As := [.int (a4), .int (24)]) (rest := []) ⟨hx, hb, hml, hown, hg⟩ (c_Q_isBelow l H.size (a4) (24) r80 hX) ⟨va_cnB (own := "QuakeServer$Program") (index := 18) (host := "QuakeServer") 2 hg (qs_gc t_313) rfl rfl rfl (nM_3 hNs) (hg _ t_1) (by decide +kernel) ⟨Nat.le_of_ble_eq_true rfl, Nat.le_of_ble_eq_true rfl⟩, hg _ t_312, trivial⟩ ⟨qs_blind0, fun U hU hW => ⟨rfl, by rw [hU], hNs.warm hW⟩⟩ rfl rfl hl.1 rfl (lv_room (Nat.le_of_ble_eq_true rfl)) d_P_isSound_187 ⟨Nat.le_of_ble_eq_true rfl, Nat.le_of_ble_eq_true rfl⟩) hP hD hS hA (fun H locs hP hS => ?_)
      refine lv_if_eq (tgt := 197) hx hb d_P_isSound_190 (by decide) (fun c81 => ?_) (fun c81 => ?_)
      · have hF := qs_pos c81 hF
        refine lv_iconst (v := 0) hx hb d_P_isSound_197 (by decide) ?_
        have h9 := Option.some.inj hF
        exact W.zret (ty := .boolean) (v := 0) hx hb hr rfl (fun t ht hW => ⟨⟨0, (), rfl, h9, trivial⟩, hS.F ht⟩) hS.2.2 d_P_isSound_198
      · have hF := qs_neg c81 hF
        refine lv_iconst (v := 1) hx hb d_P_isSound_193 (by decide) ?_
        refine lv_goto (tgt := 198) hx hb d_P_isSound_194 (by decide) ?_
        have h9 := Option.some.inj hF
        exact W.zret (ty := .boolean) (v := 1) hx hb hr rfl (fun t ht hW => ⟨⟨1, (), rfl, h9, trivial⟩, hS.F ht⟩) hS.2.2 d_P_isSound_198
  have hF := qs_neg c77 hF
  by_cases c82 : a1 = 15
  · have hF := qs_pos c82 hF
    refine lv_tableIn (tgt := 244) hx hb d_P_isSound_1 (by rw [c82]; decide) (by rw [c82]; decide) (by rw [c82]; rfl) (by decide) ?_
    refine lv_iload_n hx hb d_P_isSound_244 rfl (lv_at hl 3 rfl) ?_
    refine lv_bipush (v := 24) hx hb d_P_isSound_245 (by decide) ?_
    obtain ⟨r83, hX, hF⟩ := qs_pb_some hF
    refine qs_psi (va_runSN (own := "QuakeServer$Program") (As := [.int (a4), .int (24)]) (rest := []) ⟨hx, hb, hml, hown, hg⟩ (c_Q_isBelow l H.size (a4) (24) r83 hX) ⟨va_cnB (own := "QuakeServer$Program") (index := 18) (host := "QuakeServer") 2 hg (qs_gc t_313) rfl rfl rfl (nM_3 hNs) (hg _ t_1) (by decide +kernel) ⟨Nat.le_of_ble_eq_true rfl, Nat.le_of_ble_eq_true rfl⟩, hg _ t_312, trivial⟩ ⟨qs_blind0, fun U hU hW => ⟨rfl, by rw [hU], hNs.warm hW⟩⟩ rfl rfl hl.1 rfl (lv_room (Nat.le_of_ble_eq_true rfl)) d_P_isSound_247 ⟨Nat.le_of_ble_eq_true rfl, Nat.le_of_ble_eq_true rfl⟩) hP hD hS hA (fun H locs hP hS => ?_)
    obtain ⟨c84, hF⟩ := qs_bo_some hF
    have h9 := Option.some.inj hF
    exact W.zret (ty := .boolean) (v := r83) hx hb hr c84 (fun t ht hW => ⟨⟨r83, (), rfl, h9, trivial⟩, hS.F ht⟩) hS.2.2 d_P_isSound_250
  have hF := qs_neg c82 hF
  refine lv_tableOut (tgt := 251) hx hb d_P_isSound_1 (by have := lv_neT (a := 0) c1 (by decide); have := lv_neT (a := 1) c6 (by decide); have := lv_neT (a := 2) c13 (by decide); have := lv_neT (a := 3) c20 (by decide); have := lv_neT (a := 4) c27 (by decide); have := lv_neT (a := 5) c34 (by decide); have := lv_neT (a := 6) c41 (by decide); have := lv_neT (a := 7) c46 (by decide); have := lv_neT (a := 8) c53 (by decide); have := lv_neT (a := 9) c60 (by decide); have := lv_neT (a := 10) c65 (by decide); have := lv_neT (a := 11) c68 (by decide); have := lv_neT (a := 12) c71 (by decide); have := lv_neT (a := 13) c74 (by decide); have := lv_neT (a := 14) c77 (by decide); have := lv_neT (a := 15) c82 (by decide); omega) (by decide) ?_
  refine lv_iload_n hx hb d_P_isSound_251 rfl (lv_at hl 0 rfl) ?_
  refine lv_bipush (v := 16) hx hb d_P_isSound_252 (by decide) ?_
  refine lv_icmp_ne (tgt := 261) hx hb d_P_isSound_254 (by decide) (fun c85 => ?_) (fun c85 => ?_)
  · have hF := qs_neg c85 hF
    refine lv_iconst (v := 0) hx hb d_P_isSound_261 (by decide) ?_
    have h9 := Option.some.inj hF
    exact W.zret (ty := .boolean) (v := 0) hx hb hr rfl (fun t ht hW => ⟨⟨0, (), rfl, h9, trivial⟩, hS.F ht⟩) hS.2.2 d_P_isSound_262
  · have hF := qs_pos c85 hF
    refine lv_iconst (v := 1) hx hb d_P_isSound_257 (by decide) ?_
    refine lv_goto (tgt := 262) hx hb d_P_isSound_258 (by decide) ?_
    have h9 := Option.some.inj hF
    exact W.zret (ty := .boolean) (v := 1) hx hb hr rfl (fun t ht hW => ⟨⟨1, (), rfl, h9, trivial⟩, hS.F ht⟩) hS.2.2 d_P_isSound_262
