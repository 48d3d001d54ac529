set_option maxHeartbeats 4000000 in
set_option maxRecDepth 100000 in
theorem la_wall {p : Program} {l : Launch} {e : Env} {s : State} {m : MethodId} {below : List Frame} {meth : Method} {cd : Code} {b L : Nat} {xs : Nat → Int32} (dC : Nat → ClassId) (dI : Nat → Nat → Nat) (h : Nat → Nat) (c : Nat → ClassId) (hm : Nat → Nat) (cm : Nat → ClassId) (o od : Nat) (co cod : ClassId) (sa : Nat → Nat) (C0 : la_C l p s m meth cd b L xs sa) (g : Sg) (t : Sm) (fo : Nat → Int64) (fd : Nat → UInt64) (x5 : Int32) (hi1 : vp_in (x5 + 1) L) (hi2 : vp_in (x5 + 2) L) (hi3 : vp_in (x5 + 3) L) (hi4 : vp_in (x5 + 4) L) (r0 : (String × Sg) ⊕ (Int32 × Sg)) (r1 : Int32) (t1 : Sm) (h1 : f_Q_wall g (xs (x5 + 1).toNatClampNeg) (xs (x5 + 2).toNatClampNeg) (xs (x5 + 3).toNatClampNeg) (xs (x5 + 4).toNatClampNeg) = some r0) (h2 : f_N_wall t (xs (x5 + 1).toNatClampNeg) (xs (x5 + 2).toNatClampNeg) (xs (x5 + 3).toNatClampNeg) (xs (x5 + 4).toNatClampNeg) = some (r1, t1)) (h3 : t1.1 20 0 = qa_code (["java/lang/IllegalArgumentException", "java/lang/IllegalStateException"] : List String) r0) (h4 : ∀ r u, r0 = .inr (r, u) → r = r1) {cells slots : Nat} (hc : cells + 1 ≤ 1074) (hs : slots + 6 ≤ 9958) {H : Heap} {locs : List Loc} {ls : Array Slot} (hK : va_K (dC, dI) vwCl (la_T c cm co cod) s) (hP : va_P (dC, dI) vwCl (la_W h c hm cm o od co cod g t fo fd) H) (hD : va_D (fun q : Nat => s.heap.size ≤ q) (la_W h c hm cm o od co cod g t fo fd)) (hS : va_S (fun q : Nat => s.heap.size ≤ q) s.heap H locs) (hl : lv_has ls 9 [(0, .ref b), (1, .ref (h 0)), (2, .ref (hm 0)), (3, .ref o), (4, .ref od), (5, .int x5)]) (k9 : ∀ (fo : Nat → Int64) (fd : Nat → UInt64) (H : Heap) (locs : List Loc) (ls : Array Slot), va_P (dC, dI) vwCl (la_W h c hm cm o od co cod (qa_st r0) t1 fo fd) H → va_D (fun q : Nat => s.heap.size ≤ q) (la_W h c hm cm o od co cod (qa_st r0) t1 fo fd) → va_S (fun q : Nat => s.heap.size ≤ q) s.heap H locs → lv_has ls 9 [(0, .ref b), (1, .ref (h 0)), (2, .ref (hm 0)), (3, .ref o), (4, .ref od), (5, .int x5)] → W p l e room_1 s m #[Value.ref b] below meth cd H locs (cells + 1) (slots + 6) (lw_Z below #[Value.ref b] s) (F0 m 1076 ls [])) : W p l e room_1 s m #[Value.ref b] below meth cd H locs cells slots (lw_Z below #[Value.ref b] s) (F0 m 116 ls []) := by
  obtain ⟨⟨hx, hb, hml, hown, hg, hX, hbl⟩, hl9, hNs, hU, hN, hc1, hc2, hst⟩ := C0
  have hA : ∀ q : Nat, s.heap.size ≤ q → (fun q : Nat => s.heap.size ≤ q) q := fun _ h => h
  have hbA : ¬ (fun q : Nat => s.heap.size ≤ q) b := Nat.not_le.mpr hbl
  refine lv_aload_n hx hb d_A_law_116 rfl (lv_at hl 1 rfl) ?_
  refine lv_aload_n hx hb d_A_law_117 rfl (lv_at hl 0 rfl) ?_
  refine lv_iload hx hb d_A_law_118 (lv_at hl 5 rfl) ?_
  refine lv_iconst (v := 1) hx hb d_A_law_120 (by decide) ?_
  refine lv_iadd hx hb d_A_law_121 ?_
  refine va_sld hx hb hX hbl hbA hS hi1 d_A_law_122 ?_
  refine lv_aload_n hx hb d_A_law_123 rfl (lv_at hl 0 rfl) ?_
  refine lv_iload hx hb d_A_law_124 (lv_at hl 5 rfl) ?_
  refine lv_iconst (v := 2) hx hb d_A_law_126 (by decide) ?_
  refine lv_iadd hx hb d_A_law_127 ?_
  refine va_sld hx hb hX hbl hbA hS hi2 d_A_law_128 ?_
  refine lv_aload_n hx hb d_A_law_129 rfl (lv_at hl 0 rfl) ?_
  refine lv_iload hx hb d_A_law_130 (lv_at hl 5 rfl) ?_
  refine lv_iconst (v := 3) hx hb d_A_law_132 (by decide) ?_
  refine lv_iadd hx hb d_A_law_133 ?_
  refine va_sld hx hb hX hbl hbA hS hi3 d_A_law_134 ?_
  refine lv_aload_n hx hb d_A_law_135 rfl (lv_at hl 0 rfl) ?_
  refine lv_iload hx hb d_A_law_136 (lv_at hl 5 rfl) ?_
  refine lv_iconst (v := 4) hx hb d_A_law_138 (by decide) ?_
  refine lv_iadd hx hb d_A_law_139 ?_
  refine va_sld hx hb hX hbl hbA hS hi4 d_A_law_140 ?_
  refine lv_aload_n hx hb d_A_law_141 rfl (lv_at hl 3 rfl) ?_
  have hPc := hP.sub (ws' := (qa_W h c o co (g, fo))) [0, 1, 2, 3, 4, 5, 6, 7, 8, 9, 10, 11, 12, 13, 14, 15, 16, 30] rfl
  have hDc := hD.sub (ws' := (qa_W h c o co (g, fo))) [0, 1, 2, 3, 4, 5, 6, 7, 8, 9, 10, 11, 12, 13, 14, 15, 16, 30] (by decide) rfl
  have hKc := hK.sub (tys' := qa_T c co) [0, 1, 2, 3, 4, 5, 6, 7, 8, 9, 22] rfl
  have hFc := va_free (wc := (qa_W h c o co (g, fo))) hD hS hA [0, 1, 2, 3, 4, 5, 6, 7, 8, 9, 10, 11, 12, 13, 14, 15, 16, 30] rfl
  refine va_calli (vx_runSW (own := "QuakeServerLaw") (hh := [(0, 14, 17, 13), (0, 14, 21, 15)]) (As := [.ref (h 0), .int (xs (x5 + 1).toNatClampNeg), .int (xs (x5 + 2).toNatClampNeg), .int (xs (x5 + 3).toNatClampNeg), .int (xs (x5 + 4).toNatClampNeg), .ref o]) (rest := []) ⟨hx, hb, hml, hown, hg⟩ (c_A_wall l hl9 dC dI h c H.size o co (sa 63) (sa 68) (sa 76) g fo (xs (x5 + 1).toNatClampNeg) (xs (x5 + 2).toNatClampNeg) (xs (x5 + 3).toNatClampNeg) (xs (x5 + 4).toNatClampNeg) r0 h1) (vx_cwSW 6 hg (qs_gSW t_203 t_204 t_0 t_205) rfl rfl rfl (by decide +kernel) ⟨Nat.le_of_ble_eq_true rfl, Nat.le_of_ble_eq_true rfl⟩) ⟨fun a U g mk q => by obtain ⟨q0, q1, qP, qK, qD, qN, qU, qS, qc, qd, qs63, qs68, qs76⟩ := q; exact ⟨q0, q1, qP, va_K.moved (u := U) (U := U.calling g mk a) (Vm.Alike.refl U.vm) qK, qD, qs_N.same (s := U) (U := U.calling g mk a) rfl qN, vx_Zq.moved (u := U) (U := U.calling g mk a) (Vm.Alike.refl U.vm) qU, vx_Zq.moved (u := U) (U := U.calling g mk a) (Vm.Alike.refl U.vm) qS, va_Nc.moved (u := U) (U := U.calling g mk a) (Vm.Alike.refl U.vm) qc, va_Nc.moved (u := U) (U := U.calling g mk a) (Vm.Alike.refl U.vm) qd, vk_R.same (u := U) (U := U.calling g mk a) rfl qs63, vk_R.same (u := U) (U := U.calling g mk a) rfl qs68, vk_R.same (u := U) (U := U.calling g mk a) rfl qs76⟩, fun U9 hU9 hW9 => ⟨rfl, by rw [hU9], by rw [hU9]; exact hPc, va_K.moved hW9.alike hKc, hDc.weaken (fun _ _ _ _ => trivial), hNs.warm hW9, by rw [hU9]; exact vx_Zq.moved hW9.alike ((hU.kept hS.2.1).narrow hFc), by rw [hU9]; exact vx_Zq.moved hW9.alike ((hN.kept hS.2.1).narrow hFc), hc1.moved hW9.alike, hc2.moved hW9.alike, vk_R.warm hW9 (hst (63, "a wall\'s side is not -1024 .. 1024") (List.mem_of_getElem? (i := 0) rfl)), vk_R.warm hW9 (hst (68, "a wall ends where it begins, or before") (List.mem_of_getElem? (i := 1) rfl)), vk_R.warm hW9 (hst (76, "all walls are there") (List.mem_of_getElem? (i := 2) rfl))⟩⟩ rfl rfl hl.1 rfl (lv_room (Nat.le_of_ble_eq_true rfl)) d_A_law_142 ⟨hc, hs⟩) hS (fun q _ h => hFc q h) hFc (fun r u T9 H1 locs ht hvm hw hB hz hk hS => ?_)
  obtain ⟨rfl, rfl⟩ := hw
  obtain ⟨hP1, hK1, hD1⟩ := hB
  rw [ht] at hP1
  obtain ⟨hP, hD⟩ := va_join (wr := (ms_W hm cm t ++ [(od, .inl (cod, 1, .inr (.inr (.inr (.inl fd)))))])) (w1 := (qa_W h c o co (qa_st r0, (qa_out r0 fo)))) hP hD [0, 1, 2, 3, 4, 5, 6, 7, 8, 9, 10, 11, 12, 13, 14, 15, 16, 30] [17, 18, 19, 20, 21, 22, 23, 24, 25, 26, 27, 28, 29, 31] rfl rfl (by decide) (by decide) hk hFc hP1 hD1
  have hP := hP.sub (ws' := la_W h c hm cm o od co cod (qa_st r0) t (qa_out r0 fo) fd) [14, 15, 16, 17, 18, 19, 20, 21, 22, 23, 24, 25, 26, 27, 28, 29, 30, 0, 1, 2, 3, 4, 5, 6, 7, 8, 9, 10, 11, 12, 31, 13] rfl
  have hD := hD.sub (ws' := la_W h c hm cm o od co cod (qa_st r0) t (qa_out r0 fo) fd) [14, 15, 16, 17, 18, 19, 20, 21, 22, 23, 24, 25, 26, 27, 28, 29, 30, 0, 1, 2, 3, 4, 5, 6, 7, 8, 9, 10, 11, 12, 31, 13] (by decide) rfl
  generalize H1 = H at hP hS ⊢
  obtain ⟨kk, ekk⟩ : ∃ y : Int32, y = qa_code (["java/lang/IllegalArgumentException", "java/lang/IllegalStateException"] : List String) r0 := ⟨_, rfl⟩
  rw [← ekk]
  obtain ⟨f9, ef9⟩ : ∃ y, y = (qa_out r0 fo) := ⟨_, rfl⟩
  rw [← ef9] at hP hD
  refine lv_istore (lv' := [(6, .int kk), (0, .ref b), (1, .ref (h 0)), (2, .ref (hm 0)), (3, .ref o), (4, .ref od), (5, .int x5)]) hx hb d_A_law_145 hl (by decide) rfl (fun ls hl => ?_)
  refine lv_aload_n hx hb d_A_law_147 rfl (lv_at hl 3 rfl) ?_
  refine lv_aload_n hx hb d_A_law_148 rfl (lv_at hl 1 rfl) ?_
  refine lv_iload hx hb d_A_law_149 (lv_at hl 6 rfl) ?_
  refine lv_iconst (v := 1) hx hb d_A_law_151 (by decide) ?_
  refine lv_iadd hx hb d_A_law_152 ?_
  refine va_sld hx hb hX hbl hbA hS hi1 d_A_law_153 ?_
  refine lv_aload_n hx hb d_A_law_154 rfl (lv_at hl 1 rfl) ?_
  refine lv_iload hx hb d_A_law_155 (lv_at hl 6 rfl) ?_
  refine lv_iconst (v := 2) hx hb d_A_law_157 (by decide) ?_
  refine lv_iadd hx hb d_A_law_158 ?_
  refine va_sld hx hb hX hbl hbA hS hi2 d_A_law_159 ?_
  refine lv_aload_n hx hb d_A_law_160 rfl (lv_at hl 1 rfl) ?_
  refine lv_iload hx hb d_A_law_161 (lv_at hl 6 rfl) ?_
  refine lv_iconst (v := 3) hx hb d_A_law_163 (by decide) ?_
  refine lv_iadd hx hb d_A_law_164 ?_
  refine va_sld hx hb hX hbl hbA hS hi3 d_A_law_165 ?_
  refine lv_aload_n hx hb d_A_law_166 rfl (lv_at hl 1 rfl) ?_
  refine lv_iload hx hb d_A_law_167 (lv_at hl 6 rfl) ?_
  refine lv_iconst (v := 4) hx hb d_A_law_169 (by decide) ?_
  refine lv_iadd hx hb d_A_law_170 ?_
  refine va_sld hx hb hX hbl hbA hS hi4 d_A_law_171 ?_
  have hPc := hP.sub (ws' := (ms_W hm cm t)) [17, 18, 19, 20, 21, 22, 23, 24, 25, 26, 27, 28, 29] rfl
  have hDc := hD.sub (ws' := (ms_W hm cm t)) [17, 18, 19, 20, 21, 22, 23, 24, 25, 26, 27, 28, 29] (by decide) rfl
  have hKc := hK.sub (tys' := ms_T cm) [10, 11, 12, 13, 14, 15, 16, 17, 18, 19, 20, 21] rfl
  have hFc := va_free (wc := (ms_W hm cm t)) hD hS hA [17, 18, 19, 20, 21, 22, 23, 24, 25, 26, 27, 28, 29] rfl
  refine va_calli (va_runV (own := "QuakeServerLaw") (C := "QuakeServerModel") (As := [.int (xs (x5 + 1).toNatClampNeg), .int (xs (x5 + 2).toNatClampNeg), .int (xs (x5 + 3).toNatClampNeg), .int (xs (x5 + 4).toNatClampNeg)]) (rest := []) ⟨hx, hb, hml, hown, hg⟩ (c_N_wall l dC dI hm cm H.size t (xs (x5 + 1).toNatClampNeg) (xs (x5 + 2).toNatClampNeg) (xs (x5 + 3).toNatClampNeg) (xs (x5 + 4).toNatClampNeg) r1 t1 h2) (cwV 4 hg (qs_gV t_690 t_691 t_692 t_8 t_693) rfl rfl rfl (by decide +kernel) ⟨Nat.le_of_ble_eq_true rfl, Nat.le_of_ble_eq_true rfl⟩) ⟨qs_blind, va_recv hKc hPc (ci := 7) (q0 := 0) rfl rfl, fun U9 hU9 hW9 => ⟨rfl, by rw [hU9], by rw [hU9]; exact hPc, va_K.moved hW9.alike hKc, hDc.weaken (fun _ _ _ _ => trivial), hNs.warm hW9⟩⟩ rfl rfl hl.1 rfl (lv_room (Nat.le_of_ble_eq_true rfl)) d_A_law_172 ⟨hc, hs⟩) hS (fun q _ h => hFc q h) hFc (fun r u T9 H1 locs ht hvm hw hB hz hk hS => ?_)
  obtain ⟨rfl, rfl⟩ := hw
  obtain ⟨hP1, hK1, hD1⟩ := hB
  rw [ht] at hP1
  obtain ⟨hP, hD⟩ := va_join (wr := qs_W h c (qa_st r0) ++ [(o, .inl (co, 1, .inr (.inl f9))), (od, .inl (cod, 1, .inr (.inr (.inr (.inl fd)))))]) (w1 := ms_W hm cm u) hP hD [17, 18, 19, 20, 21, 22, 23, 24, 25, 26, 27, 28, 29] [0, 1, 2, 3, 4, 5, 6, 7, 8, 9, 10, 11, 12, 13, 14, 15, 16, 30, 31] rfl rfl (by decide) (by decide) hk hFc hP1 hD1
  have hP := hP.sub (ws' := la_W h c hm cm o od co cod (qa_st r0) u f9 fd) [0, 1, 2, 3, 4, 5, 6, 7, 8, 9, 10, 11, 12, 13, 14, 15, 16, 19, 20, 21, 22, 23, 24, 25, 26, 27, 28, 29, 30, 31, 17, 18] rfl
  have hD := hD.sub (ws' := la_W h c hm cm o od co cod (qa_st r0) u f9 fd) [0, 1, 2, 3, 4, 5, 6, 7, 8, 9, 10, 11, 12, 13, 14, 15, 16, 19, 20, 21, 22, 23, 24, 25, 26, 27, 28, 29, 30, 31, 17, 18] (by decide) rfl
  generalize H1 = H at hP hS ⊢
  obtain ⟨r1, rfl⟩ : ∃ y, y = r := ⟨_, rfl⟩
  obtain ⟨t1, rfl⟩ : ∃ y, y = u := ⟨_, rfl⟩
  have hP : va_P (dC, dI) vwCl (la_W h c hm cm o od co cod (qa_st r0) t1 f9 fd) H := hP
  refine lv_istore (lv' := [(7, .int r1), (6, .int kk), (0, .ref b), (1, .ref (h 0)), (2, .ref (hm 0)), (3, .ref o), (4, .ref od), (5, .int x5)]) hx hb d_A_law_175 hl (by decide) rfl (fun ls hl => ?_)
  refine lv_aload_n hx hb d_A_law_177 rfl (lv_at hl 4 rfl) ?_
  have hPc := hP.sub (ws' := (ms_W hm cm t1)) [17, 18, 19, 20, 21, 22, 23, 24, 25, 26, 27, 28, 29] rfl
  have hDc := hD.sub (ws' := (ms_W hm cm t1)) [17, 18, 19, 20, 21, 22, 23, 24, 25, 26, 27, 28, 29] (by decide) rfl
  have hKc := hK.sub (tys' := ms_T cm) [10, 11, 12, 13, 14, 15, 16, 17, 18, 19, 20, 21] rfl
  have hFc := va_free (wc := (ms_W hm cm t1)) hD hS hA [17, 18, 19, 20, 21, 22, 23, 24, 25, 26, 27, 28, 29] rfl
  refine va_calli (va_runV (own := "QuakeServerLaw") (C := "QuakeServerModel") (As := []) (rest := []) ⟨hx, hb, hml, hown, hg⟩ (c_N_thrown l dC dI hm cm H.size t1 (t1.1 20 0) t1 rfl) (cwV 0 hg (qs_gV t_686 t_687 t_688 t_8 t_689) rfl rfl rfl (by decide +kernel) ⟨Nat.le_of_ble_eq_true rfl, Nat.le_of_ble_eq_true rfl⟩) ⟨qs_blind, va_recv hKc hPc (ci := 7) (q0 := 0) rfl rfl, fun U9 hU9 hW9 => ⟨rfl, by rw [hU9], by rw [hU9]; exact hPc, va_K.moved hW9.alike hKc, hDc.weaken (fun _ _ _ _ => trivial), hNs.warm hW9⟩⟩ rfl rfl hl.1 rfl (lv_room (Nat.le_of_ble_eq_true rfl)) d_A_law_178 ⟨hc, hs⟩) hS (fun q _ h => hFc q h) hFc (fun r u T9 H1 locs ht hvm hw hB hz hk hS => ?_)
  obtain ⟨rfl, rfl⟩ := hw
  obtain ⟨hP1, hK1, hD1⟩ := hB
  rw [ht] at hP1
  obtain ⟨hP, hD⟩ := va_join (wr := qs_W h c (qa_st r0) ++ [(o, .inl (co, 1, .inr (.inl f9))), (od, .inl (cod, 1, .inr (.inr (.inr (.inl fd)))))]) (w1 := ms_W hm cm u) hP hD [17, 18, 19, 20, 21, 22, 23, 24, 25, 26, 27, 28, 29] [0, 1, 2, 3, 4, 5, 6, 7, 8, 9, 10, 11, 12, 13, 14, 15, 16, 30, 31] rfl rfl (by decide) (by decide) hk hFc hP1 hD1
  have hP := hP.sub (ws' := la_W h c hm cm o od co cod (qa_st r0) u f9 fd) [0, 1, 2, 3, 4, 5, 6, 7, 8, 9, 10, 11, 12, 13, 14, 15, 16, 19, 20, 21, 22, 23, 24, 25, 26, 27, 28, 29, 30, 31, 17, 18] rfl
  have hD := hD.sub (ws' := la_W h c hm cm o od co cod (qa_st r0) u f9 fd) [0, 1, 2, 3, 4, 5, 6, 7, 8, 9, 10, 11, 12, 13, 14, 15, 16, 19, 20, 21, 22, 23, 24, 25, 26, 27, 28, 29, 30, 31, 17, 18] (by decide) rfl
  generalize H1 = H at hP hS ⊢
  obtain ⟨t1, rfl⟩ : ∃ y, y = u := ⟨_, rfl⟩
  refine lv_iload hx hb d_A_law_181 (lv_at hl 1 rfl) ?_
  refine lv_icmp_eq (tgt := 188) hx hb d_A_law_183 (by decide) (fun e1 => ?_) (fun e1 => absurd (h3.trans ekk.symm) e1)
  refine lv_iload hx hb d_A_law_188 (lv_at hl 1 rfl) ?_
  have hend : ∀ (H : Heap) (locs : List Loc) (ls : Array Slot), va_P (dC, dI) vwCl (la_W h c hm cm o od co cod (qa_st r0) t1 f9 fd) H → va_D (fun q : Nat => s.heap.size ≤ q) (la_W h c hm cm o od co cod (qa_st r0) t1 f9 fd) → va_S (fun q : Nat => s.heap.size ≤ q) s.heap H locs → lv_has ls 9 [(0, .ref b), (1, .ref (h 0)), (2, .ref (hm 0)), (3, .ref o), (4, .ref od), (5, .int x5)] → W p l e room_1 s m #[Value.ref b] below meth cd H locs (cells + 1) (slots + 6) (lw_Z below #[Value.ref b] s) (F0 m 205 ls []) := fun H locs ls hP hD hS hl => by
    refine lv_goto (tgt := 1076) hx hb d_A_law_205 (by decide) ?_
    exact k9 _ _ H locs ls hP hD hS hl
  refine lv_if_ne (tgt := 205) hx hb d_A_law_190 (by decide) (fun e2 => ?_) (fun e2 => ?_)
  · exact hend _ _ _ hP hD hS (lv_sub hl [2, 3, 4, 5, 6, 7] rfl)
  · obtain ⟨a9, u9, e9⟩ := qa_code0 (Nat.le_of_ble_eq_true rfl) (ekk.symm.trans e2)
    refine lv_aload_n hx hb d_A_law_193 rfl (lv_at hl 5 rfl) ?_
    refine lv_iconst (v := 0) hx hb d_A_law_194 (by decide) ?_
    refine va_lald hx hb hK hP 30 22 rfl rfl qa_in0 d_A_law_195 ?_
    refine lv_iload hx hb d_A_law_196 (lv_at hl 0 rfl) ?_
    refine lv_i2l (v := r1.toInt64) hx hb d_A_law_198 rfl ?_
    refine W.lcmp hx hb d_A_law_199 ?_
    refine lv_if_eq (tgt := 205) hx hb d_A_law_200 (by decide) (fun e3 => hend _ _ _ hP hD hS (lv_sub hl [2, 3, 4, 5, 6, 7] rfl)) (fun e3 => absurd (by rw [ef9, e9, ← h4 a9 u9 e9]; exact la_cmp0 _) e3)
set_option maxHeartbeats 4000000 in
set_option maxRecDepth 100000 in
theorem la_instr {p : Program} {l : Launch} {e : Env} {s : State} {m : MethodId} {below : List Frame} {meth : Method} {cd : Code} {b L : Nat} {xs : Nat → Int32} (dC : Nat → ClassId) (dI : Nat → Nat → Nat) (h : Nat → Nat) (c : Nat → ClassId) (hm : Nat → Nat) (cm : Nat → ClassId) (o od : Nat) (co cod : ClassId) (sa : Nat → Nat) (C0 : la_C l p s m meth cd b L xs sa) (g : Sg) (t : Sm) (fo : Nat → Int64) (fd : Nat → UInt64) (x5 : Int32) (hi1 : vp_in (x5 + 1) L) (hi2 : vp_in (x5 + 2) L) (hi3 : vp_in (x5 + 3) L) (hi4 : vp_in (x5 + 4) L) (hi5 : vp_in (x5 + 5) L) (r0 : (String × Sg) ⊕ (Int32 × Sg)) (r1 : Int32) (t1 : Sm) (h1 : f_Q_instr g (xs (x5 + 1).toNatClampNeg) (xs (x5 + 2).toNatClampNeg) (xs (x5 + 3).toNatClampNeg) (xs (x5 + 4).toNatClampNeg) (xs (x5 + 5).toNatClampNeg) = some r0) (h2 : f_N_instr t (xs (x5 + 1).toNatClampNeg) (xs (x5 + 2).toNatClampNeg) (xs (x5 + 3).toNatClampNeg) (xs (x5 + 4).toNatClampNeg) (xs (x5 + 5).toNatClampNeg) = some (r1, t1)) (h3 : t1.1 20 0 = qa_code (["java/lang/IllegalArgumentException", "java/lang/IllegalStateException"] : List String) r0) (h4 : ∀ r u, r0 = .inr (r, u) → r = r1) {cells slots : Nat} (hc : cells + 1 ≤ 1074) (hs : slots + 6 ≤ 9958) {H : Heap} {locs : List Loc} {ls : Array Slot} (hK : va_K (dC, dI) vwCl (la_T c cm co cod) s) (hP : va_P (dC, dI) vwCl (la_W h c hm cm o od co cod g t fo fd) H) (hD : va_D (fun q : Nat => s.heap.size ≤ q) (la_W h c hm cm o od co cod g t fo fd)) (hS : va_S (fun q : Nat => s.heap.size ≤ q) s.heap H locs) (hl : lv_has ls 9 [(0, .ref b), (1, .ref (h 0)), (2, .ref (hm 0)), (3, .ref o), (4, .ref od), (5, .int x5)]) (k9 : ∀ (fo : Nat → Int64) (fd : Nat → UInt64) (H : Heap) (locs : List Loc) (ls : Array Slot), va_P (dC, dI) vwCl (la_W h c hm cm o od co cod (qa_st r0) t1 fo fd) H → va_D (fun q : Nat => s.heap.size ≤ q) (la_W h c hm cm o od co cod (qa_st r0) t1 fo fd) → va_S (fun q : Nat => s.heap.size ≤ q) s.heap H locs → lv_has ls 9 [(0, .ref b), (1, .ref (h 0)), (2, .ref (hm 0)), (3, .ref o), (4, .ref od), (5, .int x5)] → W p l e room_1 s m #[Value.ref b] below meth cd H locs (cells + 1) (slots + 6) (lw_Z below #[Value.ref b] s) (F0 m 1076 ls [])) : W p l e room_1 s m #[Value.ref b] below meth cd H locs cells slots (lw_Z below #[Value.ref b] s) (F0 m 208 ls []) := by
  obtain ⟨⟨hx, hb, hml, hown, hg, hX, hbl⟩, hl9, hNs, hU, hN, hc1, hc2, hst⟩ := C0
  have hA : ∀ q : Nat, s.heap.size ≤ q → (fun q : Nat => s.heap.size ≤ q) q := fun _ h => h
  have hbA : ¬ (fun q : Nat => s.heap.size ≤ q) b := Nat.not_le.mpr hbl
  refine lv_aload_n hx hb d_A_law_208 rfl (lv_at hl 1 rfl) ?_
  refine lv_aload_n hx hb d_A_law_209 rfl (lv_at hl 0 rfl) ?_
  refine lv_iload hx hb d_A_law_210 (lv_at hl 5 rfl) ?_
  refine lv_iconst (v := 1) hx hb d_A_law_212 (by decide) ?_
  refine lv_iadd hx hb d_A_law_213 ?_
  refine va_sld hx hb hX hbl hbA hS hi1 d_A_law_214 ?_
  refine lv_aload_n hx hb d_A_law_215 rfl (lv_at hl 0 rfl) ?_
  refine lv_iload hx hb d_A_law_216 (lv_at hl 5 rfl) ?_
  refine lv_iconst (v := 2) hx hb d_A_law_218 (by decide) ?_
  refine lv_iadd hx hb d_A_law_219 ?_
  refine va_sld hx hb hX hbl hbA hS hi2 d_A_law_220 ?_
  refine lv_aload_n hx hb d_A_law_221 rfl (lv_at hl 0 rfl) ?_
  refine lv_iload hx hb d_A_law_222 (lv_at hl 5 rfl) ?_
  refine lv_iconst (v := 3) hx hb d_A_law_224 (by decide) ?_
  refine lv_iadd hx hb d_A_law_225 ?_
  refine va_sld hx hb hX hbl hbA hS hi3 d_A_law_226 ?_
  refine lv_aload_n hx hb d_A_law_227 rfl (lv_at hl 0 rfl) ?_
  refine lv_iload hx hb d_A_law_228 (lv_at hl 5 rfl) ?_
  refine lv_iconst (v := 4) hx hb d_A_law_230 (by decide) ?_
  refine lv_iadd hx hb d_A_law_231 ?_
  refine va_sld hx hb hX hbl hbA hS hi4 d_A_law_232 ?_
  refine lv_aload_n hx hb d_A_law_233 rfl (lv_at hl 0 rfl) ?_
  refine lv_iload hx hb d_A_law_234 (lv_at hl 5 rfl) ?_
  refine lv_iconst (v := 5) hx hb d_A_law_236 (by decide) ?_
  refine lv_iadd hx hb d_A_law_237 ?_
  refine va_sld hx hb hX hbl hbA hS hi5 d_A_law_238 ?_
  refine lv_aload_n hx hb d_A_law_239 rfl (lv_at hl 3 rfl) ?_
  have hPc := hP.sub (ws' := (qa_W h c o co (g, fo))) [0, 1, 2, 3, 4, 5, 6, 7, 8, 9, 10, 11, 12, 13, 14, 15, 16, 30] rfl
  have hDc := hD.sub (ws' := (qa_W h c o co (g, fo))) [0, 1, 2, 3, 4, 5, 6, 7, 8, 9, 10, 11, 12, 13, 14, 15, 16, 30] (by decide) rfl
  have hKc := hK.sub (tys' := qa_T c co) [0, 1, 2, 3, 4, 5, 6, 7, 8, 9, 22] rfl
  have hFc := va_free (wc := (qa_W h c o co (g, fo))) hD hS hA [0, 1, 2, 3, 4, 5, 6, 7, 8, 9, 10, 11, 12, 13, 14, 15, 16, 30] rfl
  refine va_calli (vx_runSW (own := "QuakeServerLaw") (hh := [(0, 16, 19, 13), (0, 16, 23, 15)]) (As := [.ref (h 0), .int (xs (x5 + 1).toNatClampNeg), .int (xs (x5 + 2).toNatClampNeg), .int (xs (x5 + 3).toNatClampNeg), .int (xs (x5 + 4).toNatClampNeg), .int (xs (x5 + 5).toNatClampNeg), .ref o]) (rest := []) ⟨hx, hb, hml, hown, hg⟩ (c_A_instr l hl9 dC dI h c H.size o co (sa 91) (sa 97) g fo (xs (x5 + 1).toNatClampNeg) (xs (x5 + 2).toNatClampNeg) (xs (x5 + 3).toNatClampNeg) (xs (x5 + 4).toNatClampNeg) (xs (x5 + 5).toNatClampNeg) r0 h1) (vx_cwSW 7 hg (qs_gSW t_304 t_305 t_0 t_306) rfl rfl rfl (by decide +kernel) ⟨Nat.le_of_ble_eq_true rfl, Nat.le_of_ble_eq_true rfl⟩) ⟨fun a U g mk q => by obtain ⟨q0, q1, qP, qK, qD, qN, qU, qS, qc, qd, qs91, qs97⟩ := q; exact ⟨q0, q1, qP, va_K.moved (u := U) (U := U.calling g mk a) (Vm.Alike.refl U.vm) qK, qD, qs_N.same (s := U) (U := U.calling g mk a) rfl qN, vx_Zq.moved (u := U) (U := U.calling g mk a) (Vm.Alike.refl U.vm) qU, vx_Zq.moved (u := U) (U := U.calling g mk a) (Vm.Alike.refl U.vm) qS, va_Nc.moved (u := U) (U := U.calling g mk a) (Vm.Alike.refl U.vm) qc, va_Nc.moved (u := U) (U := U.calling g mk a) (Vm.Alike.refl U.vm) qd, vk_R.same (u := U) (U := U.calling g mk a) rfl qs91, vk_R.same (u := U) (U := U.calling g mk a) rfl qs97⟩, fun U9 hU9 hW9 => ⟨rfl, by rw [hU9], by rw [hU9]; exact hPc, va_K.moved hW9.alike hKc, hDc.weaken (fun _ _ _ _ => trivial), hNs.warm hW9, by rw [hU9]; exact vx_Zq.moved hW9.alike ((hU.kept hS.2.1).narrow hFc), by rw [hU9]; exact vx_Zq.moved hW9.alike ((hN.kept hS.2.1).narrow hFc), hc1.moved hW9.alike, hc2.moved hW9.alike, vk_R.warm hW9 (hst (91, "no such instruction") (List.mem_of_getElem? (i := 3) rfl)), vk_R.warm hW9 (hst (97, "the function is full") (List.mem_of_getElem? (i := 4) rfl))⟩⟩ rfl rfl hl.1 rfl (lv_room (Nat.le_of_ble_eq_true rfl)) d_A_law_240 ⟨hc, hs⟩) hS (fun q _ h => hFc q h) hFc (fun r u T9 H1 locs ht hvm hw hB hz hk hS => ?_)
  obtain ⟨rfl, rfl⟩ := hw
  obtain ⟨hP1, hK1, hD1⟩ := hB
  rw [ht] at hP1
  obtain ⟨hP, hD⟩ := va_join (wr := (ms_W hm cm t ++ [(od, .inl (cod, 1, .inr (.inr (.inr (.inl fd)))))])) (w1 := (qa_W h c o co (qa_st r0, (qa_out r0 fo)))) hP hD [0, 1, 2, 3, 4, 5, 6, 7, 8, 9, 10, 11, 12, 13, 14, 15, 16, 30] [17, 18, 19, 20, 21, 22, 23, 24, 25, 26, 27, 28, 29, 31] rfl rfl (by decide) (by decide) hk hFc hP1 hD1
  have hP := hP.sub (ws' := la_W h c hm cm o od co cod (qa_st r0) t (qa_out r0 fo) fd) [14, 15, 16, 17, 18, 19, 20, 21, 22, 23, 24, 25, 26, 27, 28, 29, 30, 0, 1, 2, 3, 4, 5, 6, 7, 8, 9, 10, 11, 12, 31, 13] rfl
  have hD := hD.sub (ws' := la_W h c hm cm o od co cod (qa_st r0) t (qa_out r0 fo) fd) [14, 15, 16, 17, 18, 19, 20, 21, 22, 23, 24, 25, 26, 27, 28, 29, 30, 0, 1, 2, 3, 4, 5, 6, 7, 8, 9, 10, 11, 12, 31, 13] (by decide) rfl
  generalize H1 = H at hP hS ⊢
  obtain ⟨kk, ekk⟩ : ∃ y : Int32, y = qa_code (["java/lang/IllegalArgumentException", "java/lang/IllegalStateException"] : List String) r0 := ⟨_, rfl⟩
  rw [← ekk]
  obtain ⟨f9, ef9⟩ : ∃ y, y = (qa_out r0 fo) := ⟨_, rfl⟩
  rw [← ef9] at hP hD
  refine lv_istore (lv' := [(6, .int kk), (0, .ref b), (1, .ref (h 0)), (2, .ref (hm 0)), (3, .ref o), (4, .ref od), (5, .int x5)]) hx hb d_A_law_243 hl (by decide) rfl (fun ls hl => ?_)
  refine lv_aload_n hx hb d_A_law_245 rfl (lv_at hl 3 rfl) ?_
  refine lv_aload_n hx hb d_A_law_246 rfl (lv_at hl 1 rfl) ?_
  refine lv_iload hx hb d_A_law_247 (lv_at hl 6 rfl) ?_
  refine lv_iconst (v := 1) hx hb d_A_law_249 (by decide) ?_
  refine lv_iadd hx hb d_A_law_250 ?_
  refine va_sld hx hb hX hbl hbA hS hi1 d_A_law_251 ?_
  refine lv_aload_n hx hb d_A_law_252 rfl (lv_at hl 1 rfl) ?_
  refine lv_iload hx hb d_A_law_253 (lv_at hl 6 rfl) ?_
  refine lv_iconst (v := 2) hx hb d_A_law_255 (by decide) ?_
  refine lv_iadd hx hb d_A_law_256 ?_
  refine va_sld hx hb hX hbl hbA hS hi2 d_A_law_257 ?_
  refine lv_aload_n hx hb d_A_law_258 rfl (lv_at hl 1 rfl) ?_
  refine lv_iload hx hb d_A_law_259 (lv_at hl 6 rfl) ?_
  refine lv_iconst (v := 3) hx hb d_A_law_261 (by decide) ?_
  refine lv_iadd hx hb d_A_law_262 ?_
  refine va_sld hx hb hX hbl hbA hS hi3 d_A_law_263 ?_
  refine lv_aload_n hx hb d_A_law_264 rfl (lv_at hl 1 rfl) ?_
  refine lv_iload hx hb d_A_law_265 (lv_at hl 6 rfl) ?_
  refine lv_iconst (v := 4) hx hb d_A_law_267 (by decide) ?_
  refine lv_iadd hx hb d_A_law_268 ?_
  refine va_sld hx hb hX hbl hbA hS hi4 d_A_law_269 ?_
  refine lv_aload_n hx hb d_A_law_270 rfl (lv_at hl 1 rfl) ?_
  refine lv_iload hx hb d_A_law_271 (lv_at hl 6 rfl) ?_
  refine lv_iconst (v := 5) hx hb d_A_law_273 (by decide) ?_
  refine lv_iadd hx hb d_A_law_274 ?_
  refine va_sld hx hb hX hbl hbA hS hi5 d_A_law_275 ?_
  have hPc := hP.sub (ws' := (ms_W hm cm t)) [17, 18, 19, 20, 21, 22, 23, 24, 25, 26, 27, 28, 29] rfl
  have hDc := hD.sub (ws' := (ms_W hm cm t)) [17, 18, 19, 20, 21, 22, 23, 24, 25, 26, 27, 28, 29] (by decide) rfl
  have hKc := hK.sub (tys' := ms_T cm) [10, 11, 12, 13, 14, 15, 16, 17, 18, 19, 20, 21] rfl
  have hFc := va_free (wc := (ms_W hm cm t)) hD hS hA [17, 18, 19, 20, 21, 22, 23, 24, 25, 26, 27, 28, 29] rfl
  refine va_calli (va_runV (own := "QuakeServerLaw") (C := "QuakeServerModel") (As := [.int (xs (x5 + 1).toNatClampNeg), .int (xs (x5 + 2).toNatClampNeg), .int (xs (x5 + 3).toNatClampNeg), .int (xs (x5 + 4).toNatClampNeg), .int (xs (x5 + 5).toNatClampNeg)]) (rest := []) ⟨hx, hb, hml, hown, hg⟩ (c_N_instr l dC dI hm cm H.size t (xs (x5 + 1).toNatClampNeg) (xs (x5 + 2).toNatClampNeg) (xs (x5 + 3).toNatClampNeg) (xs (x5 + 4).toNatClampNeg) (xs (x5 + 5).toNatClampNeg) r1 t1 h2) (cwV 5 hg (qs_gV t_702 t_703 t_704 t_8 t_705) rfl rfl rfl (by decide +kernel) ⟨Nat.le_of_ble_eq_true rfl, Nat.le_of_ble_eq_true rfl⟩) ⟨qs_blind, va_recv hKc hPc (ci := 7) (q0 := 0) rfl rfl, fun U9 hU9 hW9 => ⟨rfl, by rw [hU9], by rw [hU9]; exact hPc, va_K.moved hW9.alike hKc, hDc.weaken (fun _ _ _ _ => trivial), hNs.warm hW9⟩⟩ rfl rfl hl.1 rfl (lv_room (Nat.le_of_ble_eq_true rfl)) d_A_law_276 ⟨hc, hs⟩) hS (fun q _ h => hFc q h) hFc (fun r u T9 H1 locs ht hvm hw hB hz hk hS => ?_)
  obtain ⟨rfl, rfl⟩ := hw
  obtain ⟨hP1, hK1, hD1⟩ := hB
  rw [ht] at hP1
  obtain ⟨hP, hD⟩ := va_join (wr := qs_W h c (qa_st r0) ++ [(o, .inl (co, 1, .inr (.inl f9))), (od, .inl (cod, 1, .inr (.inr (.inr (.inl fd)))))]) (w1 := ms_W hm cm u) hP hD [17, 18, 19, 20, 21, 22, 23, 24, 25, 26, 27, 28, 29] [0, 1, 2, 3, 4, 5, 6, 7, 8, 9, 10, 11, 12, 13, 14, 15, 16, 30, 31] rfl rfl (by decide) (by decide) hk hFc hP1 hD1
  have hP := hP.sub (ws' := la_W h c hm cm o od co cod (qa_st r0) u f9 fd) [0, 1, 2, 3, 4, 5, 6, 7, 8, 9, 10, 11, 12, 13, 14, 15, 16, 19, 20, 21, 22, 23, 24, 25, 26, 27, 28, 29, 30, 31, 17, 18] rfl
  have hD := hD.sub (ws' := la_W h c hm cm o od co cod (qa_st r0) u f9 fd) [0, 1, 2, 3, 4, 5, 6, 7, 8, 9, 10, 11, 12, 13, 14, 15, 16, 19, 20, 21, 22, 23, 24, 25, 26, 27, 28, 29, 30, 31, 17, 18] (by decide) rfl
  generalize H1 = H at hP hS ⊢
  obtain ⟨r1, rfl⟩ : ∃ y, y = r := ⟨_, rfl⟩
  obtain ⟨t1, rfl⟩ : ∃ y, y = u := ⟨_, rfl⟩
  have hP : va_P (dC, dI) vwCl (la_W h c hm cm o od co cod (qa_st r0) t1 f9 fd) H := hP
  refine lv_istore (lv' := [(7, .int r1), (6, .int kk), (0, .ref b), (1, .ref (h 0)), (2, .ref (hm 0)), (3, .ref o), (4, .ref od), (5, .int x5)]) hx hb d_A_law_279 hl (by decide) rfl (fun ls hl => ?_)
  refine lv_aload_n hx hb d_A_law_281 rfl (lv_at hl 4 rfl) ?_
  have hPc := hP.sub (ws' := (ms_W hm cm t1)) [17, 18, 19, 20, 21, 22, 23, 24, 25, 26, 27, 28, 29] rfl
  have hDc := hD.sub (ws' := (ms_W hm cm t1)) [17, 18, 19, 20, 21, 22, 23, 24, 25, 26, 27, 28, 29] (by decide) rfl
  have hKc := hK.sub (tys' := ms_T cm) [10, 11, 12, 13, 14, 15, 16, 17, 18, 19, 20, 21] rfl
  have hFc := va_free (wc := (ms_W hm cm t1)) hD hS hA [17, 18, 19, 20, 21, 22, 23, 24, 25, 26, 27, 28, 29] rfl
  refine va_calli (va_runV (own := "QuakeServerLaw") (C := "QuakeServerModel") (As := []) (rest := []) ⟨hx, hb, hml, hown, hg⟩ (c_N_thrown l dC dI hm cm H.size t1 (t1.1 20 0) t1 rfl) (cwV 0 hg (qs_gV t_686 t_687 t_688 t_8 t_689) rfl rfl rfl (by decide +kernel) ⟨Nat.le_of_ble_eq_true rfl, Nat.le_of_ble_eq_true rfl⟩) ⟨qs_blind, va_recv hKc hPc (ci := 7) (q0 := 0) rfl rfl, fun U9 hU9 hW9 => ⟨rfl, by rw [hU9], by rw [hU9]; exact hPc, va_K.moved hW9.alike hKc, hDc.weaken (fun _ _ _ _ => trivial), hNs.warm hW9⟩⟩ rfl rfl hl.1 rfl (lv_room (Nat.le_of_ble_eq_true rfl)) d_A_law_282 ⟨hc, hs⟩) hS (fun q _ h => hFc q h) hFc (fun r u T9 H1 locs ht hvm hw hB hz hk hS => ?_)
  obtain ⟨rfl, rfl⟩ := hw
  obtain ⟨hP1, hK1, hD1⟩ := hB
  rw [ht] at hP1
  obtain ⟨hP, hD⟩ := va_join (wr := qs_W h c (qa_st r0) ++ [(o, .inl (co, 1, .inr (.inl f9))), (od, .inl (cod, 1, .inr (.inr (.inr (.inl fd)))))]) (w1 := ms_W hm cm u) hP hD [17, 18, 19, 20, 21, 22, 23, 24, 25, 26, 27, 28, 29] [0, 1, 2, 3, 4, 5, 6, 7, 8, 9, 10, 11, 12, 13, 14, 15, 16, 30, 31] rfl rfl (by decide) (by decide) hk hFc hP1 hD1
  have hP := hP.sub (ws' := la_W h c hm cm o od co cod (qa_st r0) u f9 fd) [0, 1, 2, 3, 4, 5, 6, 7, 8, 9, 10, 11, 12, 13, 14, 15, 16, 19, 20, 21, 22, 23, 24, 25, 26, 27, 28, 29, 30, 31, 17, 18] rfl
  have hD := hD.sub (ws' := la_W h c hm cm o od co cod (qa_st r0) u f9 fd) [0, 1, 2, 3, 4, 5, 6, 7, 8, 9, 10, 11, 12, 13, 14, 15, 16, 19, 20, 21, 22, 23, 24, 25, 26, 27, 28, 29, 30, 31, 17, 18] (by decide) rfl
  generalize H1 = H at hP hS ⊢
  obtain ⟨t1, rfl⟩ : ∃ y, y = u := ⟨_, rfl⟩
  refine lv_iload hx hb d_A_law_285 (lv_at hl 1 rfl) ?_
  refine lv_icmp_eq (tgt := 292) hx hb d_A_law_287 (by decide) (fun e1 => ?_) (fun e1 => absurd (h3.trans ekk.symm) e1)
  refine lv_iload hx hb d_A_law_292 (lv_at hl 1 rfl) ?_
  have hend : ∀ (H : Heap) (locs : List Loc) (ls : Array Slot), va_P (dC, dI) vwCl (la_W h c hm cm o od co cod (qa_st r0) t1 f9 fd) H → va_D (fun q : Nat => s.heap.size ≤ q) (la_W h c hm cm o od co cod (qa_st r0) t1 f9 fd) → va_S (fun q : Nat => s.heap.size ≤ q) s.heap H locs → lv_has ls 9 [(0, .ref b), (1, .ref (h 0)), (2, .ref (hm 0)), (3, .ref o), (4, .ref od), (5, .int x5)] → W p l e room_1 s m #[Value.ref b] below meth cd H locs (cells + 1) (slots + 6) (lw_Z below #[Value.ref b] s) (F0 m 309 ls []) := fun H locs ls hP hD hS hl => by
    refine lv_goto (tgt := 1076) hx hb d_A_law_309 (by decide) ?_
    exact k9 _ _ H locs ls hP hD hS hl
  refine lv_if_ne (tgt := 309) hx hb d_A_law_294 (by decide) (fun e2 => ?_) (fun e2 => ?_)
  · exact hend _ _ _ hP hD hS (lv_sub hl [2, 3, 4, 5, 6, 7] rfl)
  · obtain ⟨a9, u9, e9⟩ := qa_code0 (Nat.le_of_ble_eq_true rfl) (ekk.symm.trans e2)
    refine lv_aload_n hx hb d_A_law_297 rfl (lv_at hl 5 rfl) ?_
    refine lv_iconst (v := 0) hx hb d_A_law_298 (by decide) ?_
    refine va_lald hx hb hK hP 30 22 rfl rfl qa_in0 d_A_law_299 ?_
    refine lv_iload hx hb d_A_law_300 (lv_at hl 0 rfl) ?_
    refine lv_i2l (v := r1.toInt64) hx hb d_A_law_302 rfl ?_
    refine W.lcmp hx hb d_A_law_303 ?_
    refine lv_if_eq (tgt := 309) hx hb d_A_law_304 (by decide) (fun e3 => hend _ _ _ hP hD hS (lv_sub hl [2, 3, 4, 5, 6, 7] rfl)) (fun e3 => absurd (by rw [ef9, e9, ← h4 a9 u9 e9]; exact la_cmp0 _) e3)
set_option maxHeartbeats 4000000 in
set_option maxRecDepth 100000 in
theorem la_spawn {p : Program} {l : Launch} {e : Env} {s : State} {m : MethodId} {below : List Frame} {meth : Method} {cd : Code} {b L : Nat} {xs : Nat → Int32} (dC : Nat → ClassId) (dI : Nat → Nat → Nat) (h : Nat → Nat) (c : Nat → ClassId) (hm : Nat → Nat) (cm : Nat → ClassId) (o od : Nat) (co cod : ClassId) (sa : Nat → Nat) (C0 : la_C l p s m meth cd b L xs sa) (g : Sg) (t : Sm) (fo : Nat → Int64) (fd : Nat → UInt64) (x5 : Int32) (hi1 : vp_in (x5 + 1) L) (hi2 : vp_in (x5 + 2) L) (hi3 : vp_in (x5 + 3) L) (hnan : ∀ x : Int32, vf_n64 (FP.dmul (FP.i2d x) (4593671619917905920 : UInt64))) (r0 : (String × Sg) ⊕ (Int32 × Sg)) (r1 : Int32) (t1 : Sm) (h1 : f_Q_spawn g (FP.dmul (FP.i2d (xs (x5 + 1).toNatClampNeg)) (4593671619917905920 : UInt64)) (FP.dmul (FP.i2d (xs (x5 + 2).toNatClampNeg)) (4593671619917905920 : UInt64)) (FP.dmul (FP.i2d (xs (x5 + 3).toNatClampNeg)) (4593671619917905920 : UInt64)) = some r0) (h2 : f_N_spawn t (FP.dmul (FP.i2d (xs (x5 + 1).toNatClampNeg)) (4593671619917905920 : UInt64)) (FP.dmul (FP.i2d (xs (x5 + 2).toNatClampNeg)) (4593671619917905920 : UInt64)) (FP.dmul (FP.i2d (xs (x5 + 3).toNatClampNeg)) (4593671619917905920 : UInt64)) = some (r1, t1)) (h3 : t1.1 20 0 = qa_code (["java/lang/IllegalArgumentException", "java/lang/IllegalStateException"] : List String) r0) (h4 : ∀ r u, r0 = .inr (r, u) → r = r1) {cells slots : Nat} (hc : cells + 1 ≤ 1074) (hs : slots + 6 ≤ 9958) {H : Heap} {locs : List Loc} {ls : Array Slot} (hK : va_K (dC, dI) vwCl (la_T c cm co cod) s) (hP : va_P (dC, dI) vwCl (la_W h c hm cm o od co cod g t fo fd) H) (hD : va_D (fun q : Nat => s.heap.size ≤ q) (la_W h c hm cm o od co cod g t fo fd)) (hS : va_S (fun q : Nat => s.heap.size ≤ q) s.heap H locs) (hl : lv_has ls 9 [(0, .ref b), (1, .ref (h 0)), (2, .ref (hm 0)), (3, .ref o), (4, .ref od), (5, .int x5)]) (k9 : ∀ (fo : Nat → Int64) (fd : Nat → UInt64) (H : Heap) (locs : List Loc) (ls : Array Slot), va_P (dC, dI) vwCl (la_W h c hm cm o od co cod (qa_st r0) t1 fo fd) H → va_D (fun q : Nat => s.heap.size ≤ q) (la_W h c hm cm o od co cod (qa_st r0) t1 fo fd) → va_S (fun q : Nat => s.heap.size ≤ q) s.heap H locs → lv_has ls 9 [(0, .ref b), (1, .ref (h 0)), (2, .ref (hm 0)), (3, .ref o), (4, .ref od), (5, .int x5)] → W p l e room_1 s m #[Value.ref b] below meth cd H locs (cells + 1) (slots + 6) (lw_Z below #[Value.ref b] s) (F0 m 1076 ls [])) : W p l e room_1 s m #[Value.ref b] below meth cd H locs cells slots (lw_Z below #[Value.ref b] s) (F0 m 312 ls []) := by
  obtain ⟨⟨hx, hb, hml, hown, hg, hX, hbl⟩, hl9, hNs, hU, hN, hc1, hc2, hst⟩ := C0
  have hA : ∀ q : Nat, s.heap.size ≤ q → (fun q : Nat => s.heap.size ≤ q) q := fun _ h => h
  have hbA : ¬ (fun q : Nat => s.heap.size ≤ q) b := Nat.not_le.mpr hbl
  refine lv_aload_n hx hb d_A_law_312 rfl (lv_at hl 1 rfl) ?_
  refine lv_aload_n hx hb d_A_law_313 rfl (lv_at hl 0 rfl) ?_
  refine lv_iload hx hb d_A_law_314 (lv_at hl 5 rfl) ?_
  refine lv_iconst (v := 1) hx hb d_A_law_316 (by decide) ?_
  refine lv_iadd hx hb d_A_law_317 ?_
  refine va_sld hx hb hX hbl hbA hS hi1 d_A_law_318 ?_
  refine lv_i2d hx hb d_A_law_319 ?_
  refine lv_ldc2d (v := 4593671619917905920) hx hb hown (hg _ t_867) d_A_law_320 ?_
  refine lv_dmul hx hb d_A_law_323 (hnan _) ?_
  refine lv_aload_n hx hb d_A_law_324 rfl (lv_at hl 0 rfl) ?_
  refine lv_iload hx hb d_A_law_325 (lv_at hl 5 rfl) ?_
  refine lv_iconst (v := 2) hx hb d_A_law_327 (by decide) ?_
  refine lv_iadd hx hb d_A_law_328 ?_
  refine va_sld hx hb hX hbl hbA hS hi2 d_A_law_329 ?_
  refine lv_i2d hx hb d_A_law_330 ?_
  refine lv_ldc2d (v := 4593671619917905920) hx hb hown (hg _ t_867) d_A_law_331 ?_
  refine lv_dmul hx hb d_A_law_334 (hnan _) ?_
  refine lv_aload_n hx hb d_A_law_335 rfl (lv_at hl 0 rfl) ?_
  refine lv_iload hx hb d_A_law_336 (lv_at hl 5 rfl) ?_
  refine lv_iconst (v := 3) hx hb d_A_law_338 (by decide) ?_
  refine lv_iadd hx hb d_A_law_339 ?_
  refine va_sld hx hb hX hbl hbA hS hi3 d_A_law_340 ?_
  refine lv_i2d hx hb d_A_law_341 ?_
  refine lv_ldc2d (v := 4593671619917905920) hx hb hown (hg _ t_867) d_A_law_342 ?_
  refine lv_dmul hx hb d_A_law_345 (hnan _) ?_
  refine lv_aload_n hx hb d_A_law_346 rfl (lv_at hl 3 rfl) ?_
  have hPc := hP.sub (ws' := (qa_W h c o co (g, fo))) [0, 1, 2, 3, 4, 5, 6, 7, 8, 9, 10, 11, 12, 13, 14, 15, 16, 30] rfl
  have hDc := hD.sub (ws' := (qa_W h c o co (g, fo))) [0, 1, 2, 3, 4, 5, 6, 7, 8, 9, 10, 11, 12, 13, 14, 15, 16, 30] (by decide) rfl
  have hKc := hK.sub (tys' := qa_T c co) [0, 1, 2, 3, 4, 5, 6, 7, 8, 9, 22] rfl
  have hFc := va_free (wc := (qa_W h c o co (g, fo))) hD hS hA [0, 1, 2, 3, 4, 5, 6, 7, 8, 9, 10, 11, 12, 13, 14, 15, 16, 30] rfl
  refine va_calli (vx_runSW (own := "QuakeServerLaw") (hh := [(0, 13, 16, 13), (0, 13, 20, 15)]) (As := [.ref (h 0), .double (FP.dmul (FP.i2d (xs (x5 + 1).toNatClampNeg)) (4593671619917905920 : UInt64)), .double (FP.dmul (FP.i2d (xs (x5 + 2).toNatClampNeg)) (4593671619917905920 : UInt64)), .double (FP.dmul (FP.i2d (xs (x5 + 3).toNatClampNeg)) (4593671619917905920 : UInt64)), .ref o]) (rest := []) ⟨hx, hb, hml, hown, hg⟩ (c_A_spawn l hl9 dC dI h c H.size o co (sa 106) (sa 112) g fo (FP.dmul (FP.i2d (xs (x5 + 1).toNatClampNeg)) (4593671619917905920 : UInt64)) (FP.dmul (FP.i2d (xs (x5 + 2).toNatClampNeg)) (4593671619917905920 : UInt64)) (FP.dmul (FP.i2d (xs (x5 + 3).toNatClampNeg)) (4593671619917905920 : UInt64)) r0 h1) (vx_cwSW 5 hg (qs_gSW t_332 t_333 t_0 t_334) rfl rfl rfl (by decide +kernel) ⟨Nat.le_of_ble_eq_true rfl, Nat.le_of_ble_eq_true rfl⟩) ⟨fun a U g mk q => by obtain ⟨q0, q1, qP, qK, qD, qN, qU, qS, qc, qd, qs106, qs112⟩ := q; exact ⟨q0, q1, qP, va_K.moved (u := U) (U := U.calling g mk a) (Vm.Alike.refl U.vm) qK, qD, qs_N.same (s := U) (U := U.calling g mk a) rfl qN, vx_Zq.moved (u := U) (U := U.calling g mk a) (Vm.Alike.refl U.vm) qU, vx_Zq.moved (u := U) (U := U.calling g mk a) (Vm.Alike.refl U.vm) qS, va_Nc.moved (u := U) (U := U.calling g mk a) (Vm.Alike.refl U.vm) qc, va_Nc.moved (u := U) (U := U.calling g mk a) (Vm.Alike.refl U.vm) qd, vk_R.same (u := U) (U := U.calling g mk a) rfl qs106, vk_R.same (u := U) (U := U.calling g mk a) rfl qs112⟩, fun U9 hU9 hW9 => ⟨rfl, by rw [hU9], by rw [hU9]; exact hPc, va_K.moved hW9.alike hKc, hDc.weaken (fun _ _ _ _ => trivial), hNs.warm hW9, by rw [hU9]; exact vx_Zq.moved hW9.alike ((hU.kept hS.2.1).narrow hFc), by rw [hU9]; exact vx_Zq.moved hW9.alike ((hN.kept hS.2.1).narrow hFc), hc1.moved hW9.alike, hc2.moved hW9.alike, vk_R.warm hW9 (hst (106, "a number is out of range") (List.mem_of_getElem? (i := 5) rfl)), vk_R.warm hW9 (hst (112, "all entities are there") (List.mem_of_getElem? (i := 6) rfl))⟩⟩ rfl rfl hl.1 rfl (lv_room (Nat.le_of_ble_eq_true rfl)) d_A_law_347 ⟨hc, hs⟩) hS (fun q _ h => hFc q h) hFc (fun r u T9 H1 locs ht hvm hw hB hz hk hS => ?_)
  obtain ⟨rfl, rfl⟩ := hw
  obtain ⟨hP1, hK1, hD1⟩ := hB
  rw [ht] at hP1
  obtain ⟨hP, hD⟩ := va_join (wr := (ms_W hm cm t ++ [(od, .inl (cod, 1, .inr (.inr (.inr (.inl fd)))))])) (w1 := (qa_W h c o co (qa_st r0, (qa_out r0 fo)))) hP hD [0, 1, 2, 3, 4, 5, 6, 7, 8, 9, 10, 11, 12, 13, 14, 15, 16, 30] [17, 18, 19, 20, 21, 22, 23, 24, 25, 26, 27, 28, 29, 31] rfl rfl (by decide) (by decide) hk hFc hP1 hD1
  have hP := hP.sub (ws' := la_W h c hm cm o od co cod (qa_st r0) t (qa_out r0 fo) fd) [14, 15, 16, 17, 18, 19, 20, 21, 22, 23, 24, 25, 26, 27, 28, 29, 30, 0, 1, 2, 3, 4, 5, 6, 7, 8, 9, 10, 11, 12, 31, 13] rfl
  have hD := hD.sub (ws' := la_W h c hm cm o od co cod (qa_st r0) t (qa_out r0 fo) fd) [14, 15, 16, 17, 18, 19, 20, 21, 22, 23, 24, 25, 26, 27, 28, 29, 30, 0, 1, 2, 3, 4, 5, 6, 7, 8, 9, 10, 11, 12, 31, 13] (by decide) rfl
  generalize H1 = H at hP hS ⊢
  obtain ⟨kk, ekk⟩ : ∃ y : Int32, y = qa_code (["java/lang/IllegalArgumentException", "java/lang/IllegalStateException"] : List String) r0 := ⟨_, rfl⟩
  rw [← ekk]
  obtain ⟨f9, ef9⟩ : ∃ y, y = (qa_out r0 fo) := ⟨_, rfl⟩
  rw [← ef9] at hP hD
  refine lv_istore (lv' := [(6, .int kk), (0, .ref b), (1, .ref (h 0)), (2, .ref (hm 0)), (3, .ref o), (4, .ref od), (5, .int x5)]) hx hb d_A_law_350 hl (by decide) rfl (fun ls hl => ?_)
  refine lv_aload_n hx hb d_A_law_352 rfl (lv_at hl 3 rfl) ?_
  refine lv_aload_n hx hb d_A_law_353 rfl (lv_at hl 1 rfl) ?_
  refine lv_iload hx hb d_A_law_354 (lv_at hl 6 rfl) ?_
  refine lv_iconst (v := 1) hx hb d_A_law_356 (by decide) ?_
  refine lv_iadd hx hb d_A_law_357 ?_
  refine va_sld hx hb hX hbl hbA hS hi1 d_A_law_358 ?_
  refine lv_i2d hx hb d_A_law_359 ?_
  refine lv_ldc2d (v := 4593671619917905920) hx hb hown (hg _ t_867) d_A_law_360 ?_
  refine lv_dmul hx hb d_A_law_363 (hnan _) ?_
  refine lv_aload_n hx hb d_A_law_364 rfl (lv_at hl 1 rfl) ?_
  refine lv_iload hx hb d_A_law_365 (lv_at hl 6 rfl) ?_
  refine lv_iconst (v := 2) hx hb d_A_law_367 (by decide) ?_
  refine lv_iadd hx hb d_A_law_368 ?_
  refine va_sld hx hb hX hbl hbA hS hi2 d_A_law_369 ?_
  refine lv_i2d hx hb d_A_law_370 ?_
  refine lv_ldc2d (v := 4593671619917905920) hx hb hown (hg _ t_867) d_A_law_371 ?_
  refine lv_dmul hx hb d_A_law_374 (hnan _) ?_
  refine lv_aload_n hx hb d_A_law_375 rfl (lv_at hl 1 rfl) ?_
  refine lv_iload hx hb d_A_law_376 (lv_at hl 6 rfl) ?_
  refine lv_iconst (v := 3) hx hb d_A_law_378 (by decide) ?_
  refine lv_iadd hx hb d_A_law_379 ?_
  refine va_sld hx hb hX hbl hbA hS hi3 d_A_law_380 ?_
  refine lv_i2d hx hb d_A_law_381 ?_
  refine lv_ldc2d (v := 4593671619917905920) hx hb hown (hg _ t_867) d_A_law_382 ?_
  refine lv_dmul hx hb d_A_law_385 (hnan _) ?_
  have hPc := hP.sub (ws' := (ms_W hm cm t)) [17, 18, 19, 20, 21, 22, 23, 24, 25, 26, 27, 28, 29] rfl
  have hDc := hD.sub (ws' := (ms_W hm cm t)) [17, 18, 19, 20, 21, 22, 23, 24, 25, 26, 27, 28, 29] (by decide) rfl
  have hKc := hK.sub (tys' := ms_T cm) [10, 11, 12, 13, 14, 15, 16, 17, 18, 19, 20, 21] rfl
  have hFc := va_free (wc := (ms_W hm cm t)) hD hS hA [17, 18, 19, 20, 21, 22, 23, 24, 25, 26, 27, 28, 29] rfl
  refine va_calli (va_runV (own := "QuakeServerLaw") (C := "QuakeServerModel") (As := [.double (FP.dmul (FP.i2d (xs (x5 + 1).toNatClampNeg)) (4593671619917905920 : UInt64)), .double (FP.dmul (FP.i2d (xs (x5 + 2).toNatClampNeg)) (4593671619917905920 : UInt64)), .double (FP.dmul (FP.i2d (xs (x5 + 3).toNatClampNeg)) (4593671619917905920 : UInt64))]) (rest := []) ⟨hx, hb, hml, hown, hg⟩ (c_N_spawn l dC dI hm cm H.size t (FP.dmul (FP.i2d (xs (x5 + 1).toNatClampNeg)) (4593671619917905920 : UInt64)) (FP.dmul (FP.i2d (xs (x5 + 2).toNatClampNeg)) (4593671619917905920 : UInt64)) (FP.dmul (FP.i2d (xs (x5 + 3).toNatClampNeg)) (4593671619917905920 : UInt64)) r1 t1 h2) (cwV 3 hg (qs_gV t_709 t_710 t_711 t_8 t_712) rfl rfl rfl (by decide +kernel) ⟨Nat.le_of_ble_eq_true rfl, Nat.le_of_ble_eq_true rfl⟩) ⟨qs_blind, va_recv hKc hPc (ci := 7) (q0 := 0) rfl rfl, fun U9 hU9 hW9 => ⟨rfl, by rw [hU9], by rw [hU9]; exact hPc, va_K.moved hW9.alike hKc, hDc.weaken (fun _ _ _ _ => trivial), hNs.warm hW9⟩⟩ rfl rfl hl.1 rfl (lv_room (Nat.le_of_ble_eq_true rfl)) d_A_law_386 ⟨hc, hs⟩) hS (fun q _ h => hFc q h) hFc (fun r u T9 H1 locs ht hvm hw hB hz hk hS => ?_)
  obtain ⟨rfl, rfl⟩ := hw
  obtain ⟨hP1, hK1, hD1⟩ := hB
  rw [ht] at hP1
  obtain ⟨hP, hD⟩ := va_join (wr := qs_W h c (qa_st r0) ++ [(o, .inl (co, 1, .inr (.inl f9))), (od, .inl (cod, 1, .inr (.inr (.inr (.inl fd)))))]) (w1 := ms_W hm cm u) hP hD [17, 18, 19, 20, 21, 22, 23, 24, 25, 26, 27, 28, 29] [0, 1, 2, 3, 4, 5, 6, 7, 8, 9, 10, 11, 12, 13, 14, 15, 16, 30, 31] rfl rfl (by decide) (by decide) hk hFc hP1 hD1
  have hP := hP.sub (ws' := la_W h c hm cm o od co cod (qa_st r0) u f9 fd) [0, 1, 2, 3, 4, 5, 6, 7, 8, 9, 10, 11, 12, 13, 14, 15, 16, 19, 20, 21, 22, 23, 24, 25, 26, 27, 28, 29, 30, 31, 17, 18] rfl
  have hD := hD.sub (ws' := la_W h c hm cm o od co cod (qa_st r0) u f9 fd) [0, 1, 2, 3, 4, 5, 6, 7, 8, 9, 10, 11, 12, 13, 14, 15, 16, 19, 20, 21, 22, 23, 24, 25, 26, 27, 28, 29, 30, 31, 17, 18] (by decide) rfl
  generalize H1 = H at hP hS ⊢
  obtain ⟨r1, rfl⟩ : ∃ y, y = r := ⟨_, rfl⟩
  obtain ⟨t1, rfl⟩ : ∃ y, y = u := ⟨_, rfl⟩
  have hP : va_P (dC, dI) vwCl (la_W h c hm cm o od co cod (qa_st r0) t1 f9 fd) H := hP
  refine lv_istore (lv' := [(7, .int r1), (6, .int kk), (0, .ref b), (1, .ref (h 0)), (2, .ref (hm 0)), (3, .ref o), (4, .ref od), (5, .int x5)]) hx hb d_A_law_389 hl (by decide) rfl (fun ls hl => ?_)
  refine lv_aload_n hx hb d_A_law_391 rfl (lv_at hl 4 rfl) ?_
  have hPc := hP.sub (ws' := (ms_W hm cm t1)) [17, 18, 19, 20, 21, 22, 23, 24, 25, 26, 27, 28, 29] rfl
  have hDc := hD.sub (ws' := (ms_W hm cm t1)) [17, 18, 19, 20, 21, 22, 23, 24, 25, 26, 27, 28, 29] (by decide) rfl
  have hKc := hK.sub (tys' := ms_T cm) [10, 11, 12, 13, 14, 15, 16, 17, 18, 19, 20, 21] rfl
  have hFc := va_free (wc := (ms_W hm cm t1)) hD hS hA [17, 18, 19, 20, 21, 22, 23, 24, 25, 26, 27, 28, 29] rfl
  refine va_calli (va_runV (own := "QuakeServerLaw") (C := "QuakeServerModel") (As := []) (rest := []) ⟨hx, hb, hml, hown, hg⟩ (c_N_thrown l dC dI hm cm H.size t1 (t1.1 20 0) t1 rfl) (cwV 0 hg (qs_gV t_686 t_687 t_688 t_8 t_689) rfl rfl rfl (by decide +kernel) ⟨Nat.le_of_ble_eq_true rfl, Nat.le_of_ble_eq_true rfl⟩) ⟨qs_blind, va_recv hKc hPc (ci := 7) (q0 := 0) rfl rfl, fun U9 hU9 hW9 => ⟨rfl, by rw [hU9], by rw [hU9]; exact hPc, va_K.moved hW9.alike hKc, hDc.weaken (fun _ _ _ _ => trivial), hNs.warm hW9⟩⟩ rfl rfl hl.1 rfl (lv_room (Nat.le_of_ble_eq_true rfl)) d_A_law_392 ⟨hc, hs⟩) hS (fun q _ h => hFc q h) hFc (fun r u T9 H1 locs ht hvm hw hB hz hk hS => ?_)
  obtain ⟨rfl, rfl⟩ := hw
  obtain ⟨hP1, hK1, hD1⟩ := hB
  rw [ht] at hP1
  obtain ⟨hP, hD⟩ := va_join (wr := qs_W h c (qa_st r0) ++ [(o, .inl (co, 1, .inr (.inl f9))), (od, .inl (cod, 1, .inr (.inr (.inr (.inl fd)))))]) (w1 := ms_W hm cm u) hP hD [17, 18, 19, 20, 21, 22, 23, 24, 25, 26, 27, 28, 29] [0, 1, 2, 3, 4, 5, 6, 7, 8, 9, 10, 11, 12, 13, 14, 15, 16, 30, 31] rfl rfl (by decide) (by decide) hk hFc hP1 hD1
  have hP := hP.sub (ws' := la_W h c hm cm o od co cod (qa_st r0) u f9 fd) [0, 1, 2, 3, 4, 5, 6, 7, 8, 9, 10, 11, 12, 13, 14, 15, 16, 19, 20, 21, 22, 23, 24, 25, 26, 27, 28, 29, 30, 31, 17, 18] rfl
  have hD := hD.sub (ws' := la_W h c hm cm o od co cod (qa_st r0) u f9 fd) [0, 1, 2, 3, 4, 5, 6, 7, 8, 9, 10, 11, 12, 13, 14, 15, 16, 19, 20, 21, 22, 23, 24, 25, 26, 27, 28, 29, 30, 31, 17, 18] (by decide) rfl
  generalize H1 = H at hP hS ⊢
  obtain ⟨t1, rfl⟩ : ∃ y, y = u := ⟨_, rfl⟩
  refine lv_iload hx hb d_A_law_395 (lv_at hl 1 rfl) ?_
  refine lv_icmp_eq (tgt := 402) hx hb d_A_law_397 (by decide) (fun e1 => ?_) (fun e1 => absurd (h3.trans ekk.symm) e1)
  refine lv_iload hx hb d_A_law_402 (lv_at hl 1 rfl) ?_
  have hend : ∀ (H : Heap) (locs : List Loc) (ls : Array Slot), va_P (dC, dI) vwCl (la_W h c hm cm o od co cod (qa_st r0) t1 f9 fd) H → va_D (fun q : Nat => s.heap.size ≤ q) (la_W h c hm cm o od co cod (qa_st r0) t1 f9 fd) → va_S (fun q : Nat => s.heap.size ≤ q) s.heap H locs → lv_has ls 9 [(0, .ref b), (1, .ref (h 0)), (2, .ref (hm 0)), (3, .ref o), (4, .ref od), (5, .int x5)] → W p l e room_1 s m #[Value.ref b] below meth cd H locs (cells + 1) (slots + 6) (lw_Z below #[Value.ref b] s) (F0 m 419 ls []) := fun H locs ls hP hD hS hl => by
    refine lv_goto (tgt := 1076) hx hb d_A_law_419 (by decide) ?_
    exact k9 _ _ H locs ls hP hD hS hl
  refine lv_if_ne (tgt := 419) hx hb d_A_law_404 (by decide) (fun e2 => ?_) (fun e2 => ?_)
  · exact hend _ _ _ hP hD hS (lv_sub hl [2, 3, 4, 5, 6, 7] rfl)
  · obtain ⟨a9, u9, e9⟩ := qa_code0 (Nat.le_of_ble_eq_true rfl) (ekk.symm.trans e2)
    refine lv_aload_n hx hb d_A_law_407 rfl (lv_at hl 5 rfl) ?_
    refine lv_iconst (v := 0) hx hb d_A_law_408 (by decide) ?_
    refine va_lald hx hb hK hP 30 22 rfl rfl qa_in0 d_A_law_409 ?_
    refine lv_iload hx hb d_A_law_410 (lv_at hl 0 rfl) ?_
    refine lv_i2l (v := r1.toInt64) hx hb d_A_law_412 rfl ?_
    refine W.lcmp hx hb d_A_law_413 ?_
    refine lv_if_eq (tgt := 419) hx hb d_A_law_414 (by decide) (fun e3 => hend _ _ _ hP hD hS (lv_sub hl [2, 3, 4, 5, 6, 7] rfl)) (fun e3 => absurd (by rw [ef9, e9, ← h4 a9 u9 e9]; exact la_cmp0 _) e3)
