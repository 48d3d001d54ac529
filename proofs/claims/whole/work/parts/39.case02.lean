set_option maxHeartbeats 4000000 in
set_option maxRecDepth 100000 in
theorem la_setGlobal {p : Program} {l : Launch} {e : Env} {s : State} {m : MethodId} {below : List Frame} {meth : Method} {cd : Code} {b L : Nat} {xs : Nat → Int32} (dC : Nat → ClassId) (dI : Nat → Nat → Nat) (h : Nat → Nat) (c : Nat → ClassId) (hm : Nat → Nat) (cm : Nat → ClassId) (o od : Nat) (co cod : ClassId) (sa : Nat → Nat) (C0 : la_C l p s m meth cd b L xs sa) (g : Sg) (t : Sm) (fo : Nat → Int64) (fd : Nat → UInt64) (x5 : Int32) (hi1 : vp_in (x5 + 1) L) (hi2 : vp_in (x5 + 2) L) (r0 : (String × Sg) ⊕ (Int32 × Sg)) (r1 : Int32) (t1 : Sm) (h1 : f_Q_setGlobal g (xs (x5 + 1).toNatClampNeg) (xs (x5 + 2).toNatClampNeg) = some r0) (h2 : f_N_setGlobal t (xs (x5 + 1).toNatClampNeg) (xs (x5 + 2).toNatClampNeg) = some (r1, t1)) (h3 : t1.1 20 0 = qa_code (["java/lang/IllegalArgumentException"] : List String) r0) (h4 : ∀ r u, r0 = .inr (r, u) → r = r1) {cells slots : Nat} (hc : cells + 1 ≤ 1074) (hs : slots + 6 ≤ 9958) {H : Heap} {locs : List Loc} {ls : Array Slot} (hK : va_K (dC, dI) vwCl (la_T c cm co cod) s) (hP : va_P (dC, dI) vwCl (la_W h c hm cm o od co cod g t fo fd) H) (hD : va_D (fun q : Nat => s.heap.size ≤ q) (la_W h c hm cm o od co cod g t fo fd)) (hS : va_S (fun q : Nat => s.heap.size ≤ q) s.heap H locs) (hl : lv_has ls 9 [(0, .ref b), (1, .ref (h 0)), (2, .ref (hm 0)), (3, .ref o), (4, .ref od), (5, .int x5)]) (k9 : ∀ (fo : Nat → Int64) (fd : Nat → UInt64) (H : Heap) (locs : List Loc) (ls : Array Slot), va_P (dC, dI) vwCl (la_W h c hm cm o od co cod (qa_st r0) t1 fo fd) H → va_D (fun q : Nat => s.heap.size ≤ q) (la_W h c hm cm o od co cod (qa_st r0) t1 fo fd) → va_S (fun q : Nat => s.heap.size ≤ q) s.heap H locs → lv_has ls 9 [(0, .ref b), (1, .ref (h 0)), (2, .ref (hm 0)), (3, .ref o), (4, .ref od), (5, .int x5)] → W p l e room_1 s m #[Value.ref b] below meth cd H locs (cells + 1) (slots + 6) (lw_Z below #[Value.ref b] s) (F0 m 1076 ls [])) : W p l e room_1 s m #[Value.ref b] below meth cd H locs cells slots (lw_Z below #[Value.ref b] s) (F0 m 678 ls []) := by
  obtain ⟨⟨hx, hb, hml, hown, hg, hX, hbl⟩, hl9, hNs, hU, hN, hc1, hc2, hst⟩ := C0
  have hA : ∀ q : Nat, s.heap.size ≤ q → (fun q : Nat => s.heap.size ≤ q) q := fun _ h => h
  have hbA : ¬ (fun q : Nat => s.heap.size ≤ q) b := Nat.not_le.mpr hbl
  refine lv_aload_n hx hb d_A_law_678 rfl (lv_at hl 1 rfl) ?_
  refine lv_aload_n hx hb d_A_law_679 rfl (lv_at hl 0 rfl) ?_
  refine lv_iload hx hb d_A_law_680 (lv_at hl 5 rfl) ?_
  refine lv_iconst (v := 1) hx hb d_A_law_682 (by decide) ?_
  refine lv_iadd hx hb d_A_law_683 ?_
  refine va_sld hx hb hX hbl hbA hS hi1 d_A_law_684 ?_
  refine lv_aload_n hx hb d_A_law_685 rfl (lv_at hl 0 rfl) ?_
  refine lv_iload hx hb d_A_law_686 (lv_at hl 5 rfl) ?_
  refine lv_iconst (v := 2) hx hb d_A_law_688 (by decide) ?_
  refine lv_iadd hx hb d_A_law_689 ?_
  refine va_sld hx hb hX hbl hbA hS hi2 d_A_law_690 ?_
  refine lv_aload_n hx hb d_A_law_691 rfl (lv_at hl 3 rfl) ?_
  have hPc := hP.sub (ws' := (qa_W h c o co (g, fo))) [0, 1, 2, 3, 4, 5, 6, 7, 8, 9, 10, 11, 12, 13, 14, 15, 16, 30] rfl
  have hDc := hD.sub (ws' := (qa_W h c o co (g, fo))) [0, 1, 2, 3, 4, 5, 6, 7, 8, 9, 10, 11, 12, 13, 14, 15, 16, 30] (by decide) rfl
  have hKc := hK.sub (tys' := qa_T c co) [0, 1, 2, 3, 4, 5, 6, 7, 8, 9, 22] rfl
  have hFc := va_free (wc := (qa_W h c o co (g, fo))) hD hS hA [0, 1, 2, 3, 4, 5, 6, 7, 8, 9, 10, 11, 12, 13, 14, 15, 16, 30] rfl
  refine va_calli (vx_runSW (own := "QuakeServerLaw") (hh := [(0, 10, 13, 13)]) (As := [.ref (h 0), .int (xs (x5 + 1).toNatClampNeg), .int (xs (x5 + 2).toNatClampNeg), .ref o]) (rest := []) ⟨hx, hb, hml, hown, hg⟩ (c_A_setGlobal l hl9 dC dI h c H.size o co (sa 148) g fo (xs (x5 + 1).toNatClampNeg) (xs (x5 + 2).toNatClampNeg) r0 h1) (vx_cwSW 4 hg (qs_gSW t_408 t_409 t_0 t_410) rfl rfl rfl (by decide +kernel) ⟨Nat.le_of_ble_eq_true rfl, Nat.le_of_ble_eq_true rfl⟩) ⟨fun a U g mk q => by obtain ⟨q0, q1, qP, qK, qD, qN, qU, qS, qc, qd, qs148⟩ := q; exact ⟨q0, q1, qP, va_K.moved (u := U) (U := U.calling g mk a) (Vm.Alike.refl U.vm) qK, qD, qs_N.same (s := U) (U := U.calling g mk a) rfl qN, vx_Zq.moved (u := U) (U := U.calling g mk a) (Vm.Alike.refl U.vm) qU, vx_Zq.moved (u := U) (U := U.calling g mk a) (Vm.Alike.refl U.vm) qS, va_Nc.moved (u := U) (U := U.calling g mk a) (Vm.Alike.refl U.vm) qc, va_Nc.moved (u := U) (U := U.calling g mk a) (Vm.Alike.refl U.vm) qd, vk_R.same (u := U) (U := U.calling g mk a) rfl qs148⟩, fun U9 hU9 hW9 => ⟨rfl, by rw [hU9], by rw [hU9]; exact hPc, va_K.moved hW9.alike hKc, hDc.weaken (fun _ _ _ _ => trivial), hNs.warm hW9, by rw [hU9]; exact vx_Zq.moved hW9.alike ((hU.kept hS.2.1).narrow hFc), by rw [hU9]; exact vx_Zq.moved hW9.alike ((hN.kept hS.2.1).narrow hFc), hc1.moved hW9.alike, hc2.moved hW9.alike, vk_R.warm hW9 (hst (148, "no such global or number") (List.mem_of_getElem? (i := 10) rfl))⟩⟩ rfl rfl hl.1 rfl (lv_room (Nat.le_of_ble_eq_true rfl)) d_A_law_692 ⟨hc, hs⟩) hS (fun q _ h => hFc q h) hFc (fun r u T9 H1 locs ht hvm hw hB hz hk hS => ?_)
  obtain ⟨rfl, rfl⟩ := hw
  obtain ⟨hP1, hK1, hD1⟩ := hB
  rw [ht] at hP1
  obtain ⟨hP, hD⟩ := va_join (wr := (ms_W hm cm t ++ [(od, .inl (cod, 1, .inr (.inr (.inr (.inl fd)))))])) (w1 := (qa_W h c o co (qa_st r0, (qa_out r0 fo)))) hP hD [0, 1, 2, 3, 4, 5, 6, 7, 8, 9, 10, 11, 12, 13, 14, 15, 16, 30] [17, 18, 19, 20, 21, 22, 23, 24, 25, 26, 27, 28, 29, 31] rfl rfl (by decide) (by decide) hk hFc hP1 hD1
  have hP := hP.sub (ws' := la_W h c hm cm o od co cod (qa_st r0) t (qa_out r0 fo) fd) [14, 15, 16, 17, 18, 19, 20, 21, 22, 23, 24, 25, 26, 27, 28, 29, 30, 0, 1, 2, 3, 4, 5, 6, 7, 8, 9, 10, 11, 12, 31, 13] rfl
  have hD := hD.sub (ws' := la_W h c hm cm o od co cod (qa_st r0) t (qa_out r0 fo) fd) [14, 15, 16, 17, 18, 19, 20, 21, 22, 23, 24, 25, 26, 27, 28, 29, 30, 0, 1, 2, 3, 4, 5, 6, 7, 8, 9, 10, 11, 12, 31, 13] (by decide) rfl
  generalize H1 = H at hP hS ⊢
  obtain ⟨kk, ekk⟩ : ∃ y : Int32, y = qa_code (["java/lang/IllegalArgumentException"] : List String) r0 := ⟨_, rfl⟩
  rw [← ekk]
  obtain ⟨f9, ef9⟩ : ∃ y, y = (qa_out r0 fo) := ⟨_, rfl⟩
  rw [← ef9] at hP hD
  refine lv_istore (lv' := [(6, .int kk), (0, .ref b), (1, .ref (h 0)), (2, .ref (hm 0)), (3, .ref o), (4, .ref od), (5, .int x5)]) hx hb d_A_law_695 hl (by decide) rfl (fun ls hl => ?_)
  refine lv_aload_n hx hb d_A_law_697 rfl (lv_at hl 3 rfl) ?_
  refine lv_aload_n hx hb d_A_law_698 rfl (lv_at hl 1 rfl) ?_
  refine lv_iload hx hb d_A_law_699 (lv_at hl 6 rfl) ?_
  refine lv_iconst (v := 1) hx hb d_A_law_701 (by decide) ?_
  refine lv_iadd hx hb d_A_law_702 ?_
  refine va_sld hx hb hX hbl hbA hS hi1 d_A_law_703 ?_
  refine lv_aload_n hx hb d_A_law_704 rfl (lv_at hl 1 rfl) ?_
  refine lv_iload hx hb d_A_law_705 (lv_at hl 6 rfl) ?_
  refine lv_iconst (v := 2) hx hb d_A_law_707 (by decide) ?_
  refine lv_iadd hx hb d_A_law_708 ?_
  refine va_sld hx hb hX hbl hbA hS hi2 d_A_law_709 ?_
  have hPc := hP.sub (ws' := (ms_W hm cm t)) [17, 18, 19, 20, 21, 22, 23, 24, 25, 26, 27, 28, 29] rfl
  have hDc := hD.sub (ws' := (ms_W hm cm t)) [17, 18, 19, 20, 21, 22, 23, 24, 25, 26, 27, 28, 29] (by decide) rfl
  have hKc := hK.sub (tys' := ms_T cm) [10, 11, 12, 13, 14, 15, 16, 17, 18, 19, 20, 21] rfl
  have hFc := va_free (wc := (ms_W hm cm t)) hD hS hA [17, 18, 19, 20, 21, 22, 23, 24, 25, 26, 27, 28, 29] rfl
  refine va_calli (va_runV (own := "QuakeServerLaw") (C := "QuakeServerModel") (As := [.int (xs (x5 + 1).toNatClampNeg), .int (xs (x5 + 2).toNatClampNeg)]) (rest := []) ⟨hx, hb, hml, hown, hg⟩ (c_N_setGlobal l dC dI hm cm H.size t (xs (x5 + 1).toNatClampNeg) (xs (x5 + 2).toNatClampNeg) r1 t1 h2) (cwV 2 hg (qs_gV t_743 t_744 t_745 t_8 t_746) rfl rfl rfl (by decide +kernel) ⟨Nat.le_of_ble_eq_true rfl, Nat.le_of_ble_eq_true rfl⟩) ⟨qs_blind, va_recv hKc hPc (ci := 7) (q0 := 0) rfl rfl, fun U9 hU9 hW9 => ⟨rfl, by rw [hU9], by rw [hU9]; exact hPc, va_K.moved hW9.alike hKc, hDc.weaken (fun _ _ _ _ => trivial), hNs.warm hW9⟩⟩ rfl rfl hl.1 rfl (lv_room (Nat.le_of_ble_eq_true rfl)) d_A_law_710 ⟨hc, hs⟩) hS (fun q _ h => hFc q h) hFc (fun r u T9 H1 locs ht hvm hw hB hz hk hS => ?_)
  obtain ⟨rfl, rfl⟩ := hw
  obtain ⟨hP1, hK1, hD1⟩ := hB
  rw [ht] at hP1
  obtain ⟨hP, hD⟩ := va_join (wr := qs_W h c (qa_st r0) ++ [(o, .inl (co, 1, .inr (.inl f9))), (od, .inl (cod, 1, .inr (.inr (.inr (.inl fd)))))]) (w1 := ms_W hm cm u) hP hD [17, 18, 19, 20, 21, 22, 23, 24, 25, 26, 27, 28, 29] [0, 1, 2, 3, 4, 5, 6, 7, 8, 9, 10, 11, 12, 13, 14, 15, 16, 30, 31] rfl rfl (by decide) (by decide) hk hFc hP1 hD1
  have hP := hP.sub (ws' := la_W h c hm cm o od co cod (qa_st r0) u f9 fd) [0, 1, 2, 3, 4, 5, 6, 7, 8, 9, 10, 11, 12, 13, 14, 15, 16, 19, 20, 21, 22, 23, 24, 25, 26, 27, 28, 29, 30, 31, 17, 18] rfl
  have hD := hD.sub (ws' := la_W h c hm cm o od co cod (qa_st r0) u f9 fd) [0, 1, 2, 3, 4, 5, 6, 7, 8, 9, 10, 11, 12, 13, 14, 15, 16, 19, 20, 21, 22, 23, 24, 25, 26, 27, 28, 29, 30, 31, 17, 18] (by decide) rfl
  generalize H1 = H at hP hS ⊢
  obtain ⟨r1, rfl⟩ : ∃ y, y = r := ⟨_, rfl⟩
  obtain ⟨t1, rfl⟩ : ∃ y, y = u := ⟨_, rfl⟩
  have hP : va_P (dC, dI) vwCl (la_W h c hm cm o od co cod (qa_st r0) t1 f9 fd) H := hP
  refine lv_istore (lv' := [(7, .int r1), (6, .int kk), (0, .ref b), (1, .ref (h 0)), (2, .ref (hm 0)), (3, .ref o), (4, .ref od), (5, .int x5)]) hx hb d_A_law_713 hl (by decide) rfl (fun ls hl => ?_)
  refine lv_aload_n hx hb d_A_law_715 rfl (lv_at hl 4 rfl) ?_
  have hPc := hP.sub (ws' := (ms_W hm cm t1)) [17, 18, 19, 20, 21, 22, 23, 24, 25, 26, 27, 28, 29] rfl
  have hDc := hD.sub (ws' := (ms_W hm cm t1)) [17, 18, 19, 20, 21, 22, 23, 24, 25, 26, 27, 28, 29] (by decide) rfl
  have hKc := hK.sub (tys' := ms_T cm) [10, 11, 12, 13, 14, 15, 16, 17, 18, 19, 20, 21] rfl
  have hFc := va_free (wc := (ms_W hm cm t1)) hD hS hA [17, 18, 19, 20, 21, 22, 23, 24, 25, 26, 27, 28, 29] rfl
  refine va_calli (va_runV (own := "QuakeServerLaw") (C := "QuakeServerModel") (As := []) (rest := []) ⟨hx, hb, hml, hown, hg⟩ (c_N_thrown l dC dI hm cm H.size t1 (t1.1 20 0) t1 rfl) (cwV 0 hg (qs_gV t_686 t_687 t_688 t_8 t_689) rfl rfl rfl (by decide +kernel) ⟨Nat.le_of_ble_eq_true rfl, Nat.le_of_ble_eq_true rfl⟩) ⟨qs_blind, va_recv hKc hPc (ci := 7) (q0 := 0) rfl rfl, fun U9 hU9 hW9 => ⟨rfl, by rw [hU9], by rw [hU9]; exact hPc, va_K.moved hW9.alike hKc, hDc.weaken (fun _ _ _ _ => trivial), hNs.warm hW9⟩⟩ rfl rfl hl.1 rfl (lv_room (Nat.le_of_ble_eq_true rfl)) d_A_law_716 ⟨hc, hs⟩) hS (fun q _ h => hFc q h) hFc (fun r u T9 H1 locs ht hvm hw hB hz hk hS => ?_)
  obtain ⟨rfl, rfl⟩ := hw
  obtain ⟨hP1, hK1, hD1⟩ := hB
  rw [ht] at hP1
  obtain ⟨hP, hD⟩ := va_join (wr := qs_W h c (qa_st r0) ++ [(o, .inl (co, 1, .inr (.inl f9))), (od, .inl (cod, 1, .inr (.inr (.inr (.inl fd)))))]) (w1 := ms_W hm cm u) hP hD [17, 18, 19, 20, 21, 22, 23, 24, 25, 26, 27, 28, 29] [0, 1, 2, 3, 4, 5, 6, 7, 8, 9, 10, 11, 12, 13, 14, 15, 16, 30, 31] rfl rfl (by decide) (by decide) hk hFc hP1 hD1
  have hP := hP.sub (ws' := la_W h c hm cm o od co cod (qa_st r0) u f9 fd) [0, 1, 2, 3, 4, 5, 6, 7, 8, 9, 10, 11, 12, 13, 14, 15, 16, 19, 20, 21, 22, 23, 24, 25, 26, 27, 28, 29, 30, 31, 17, 18] rfl
  have hD := hD.sub (ws' := la_W h c hm cm o od co cod (qa_st r0) u f9 fd) [0, 1, 2, 3, 4, 5, 6, 7, 8, 9, 10, 11, 12, 13, 14, 15, 16, 19, 20, 21, 22, 23, 24, 25, 26, 27, 28, 29, 30, 31, 17, 18] (by decide) rfl
  generalize H1 = H at hP hS ⊢
  obtain ⟨t1, rfl⟩ : ∃ y, y = u := ⟨_, rfl⟩
  refine lv_iload hx hb d_A_law_719 (lv_at hl 1 rfl) ?_
  refine lv_icmp_eq (tgt := 726) hx hb d_A_law_721 (by decide) (fun e1 => ?_) (fun e1 => absurd (h3.trans ekk.symm) e1)
  refine lv_iload hx hb d_A_law_726 (lv_at hl 1 rfl) ?_
  have hend : ∀ (H : Heap) (locs : List Loc) (ls : Array Slot), va_P (dC, dI) vwCl (la_W h c hm cm o od co cod (qa_st r0) t1 f9 fd) H → va_D (fun q : Nat => s.heap.size ≤ q) (la_W h c hm cm o od co cod (qa_st r0) t1 f9 fd) → va_S (fun q : Nat => s.heap.size ≤ q) s.heap H locs → lv_has ls 9 [(0, .ref b), (1, .ref (h 0)), (2, .ref (hm 0)), (3, .ref o), (4, .ref od), (5, .int x5)] → W p l e room_1 s m #[Value.ref b] below meth cd H locs (cells + 1) (slots + 6) (lw_Z below #[Value.ref b] s) (F0 m 743 ls []) := fun H locs ls hP hD hS hl => by
    refine lv_goto (tgt := 1076) hx hb d_A_law_743 (by decide) ?_
    exact k9 _ _ H locs ls hP hD hS hl
  refine lv_if_ne (tgt := 743) hx hb d_A_law_728 (by decide) (fun e2 => ?_) (fun e2 => ?_)
  · exact hend _ _ _ hP hD hS (lv_sub hl [2, 3, 4, 5, 6, 7] rfl)
  · obtain ⟨a9, u9, e9⟩ := qa_code0 (Nat.le_of_ble_eq_true rfl) (ekk.symm.trans e2)
    refine lv_aload_n hx hb d_A_law_731 rfl (lv_at hl 5 rfl) ?_
    refine lv_iconst (v := 0) hx hb d_A_law_732 (by decide) ?_
    refine va_lald hx hb hK hP 30 22 rfl rfl qa_in0 d_A_law_733 ?_
    refine lv_iload hx hb d_A_law_734 (lv_at hl 0 rfl) ?_
    refine lv_i2l (v := r1.toInt64) hx hb d_A_law_736 rfl ?_
    refine W.lcmp hx hb d_A_law_737 ?_
    refine lv_if_eq (tgt := 743) hx hb d_A_law_738 (by decide) (fun e3 => hend _ _ _ hP hD hS (lv_sub hl [2, 3, 4, 5, 6, 7] rfl)) (fun e3 => absurd (by rw [ef9, e9, ← h4 a9 u9 e9]; exact la_cmp0 _) e3)
set_option maxHeartbeats 4000000 in
set_option maxRecDepth 100000 in
theorem la_global {p : Program} {l : Launch} {e : Env} {s : State} {m : MethodId} {below : List Frame} {meth : Method} {cd : Code} {b L : Nat} {xs : Nat → Int32} (dC : Nat → ClassId) (dI : Nat → Nat → Nat) (h : Nat → Nat) (c : Nat → ClassId) (hm : Nat → Nat) (cm : Nat → ClassId) (o od : Nat) (co cod : ClassId) (sa : Nat → Nat) (C0 : la_C l p s m meth cd b L xs sa) (g : Sg) (t : Sm) (fo : Nat → Int64) (fd : Nat → UInt64) (x5 : Int32) (hi1 : vp_in (x5 + 1) L) (r0 : (String × Sg) ⊕ (Int32 × Sg)) (r1 : Int32) (t1 : Sm) (h1 : f_Q_global g (xs (x5 + 1).toNatClampNeg) = some r0) (h2 : f_N_global t (xs (x5 + 1).toNatClampNeg) = some (r1, t1)) (h3 : t1.1 20 0 = qa_code (["java/lang/IllegalArgumentException"] : List String) r0) (h4 : ∀ r u, r0 = .inr (r, u) → r = r1) {cells slots : Nat} (hc : cells + 1 ≤ 1074) (hs : slots + 6 ≤ 9958) {H : Heap} {locs : List Loc} {ls : Array Slot} (hK : va_K (dC, dI) vwCl (la_T c cm co cod) s) (hP : va_P (dC, dI) vwCl (la_W h c hm cm o od co cod g t fo fd) H) (hD : va_D (fun q : Nat => s.heap.size ≤ q) (la_W h c hm cm o od co cod g t fo fd)) (hS : va_S (fun q : Nat => s.heap.size ≤ q) s.heap H locs) (hl : lv_has ls 9 [(0, .ref b), (1, .ref (h 0)), (2, .ref (hm 0)), (3, .ref o), (4, .ref od), (5, .int x5)]) (k9 : ∀ (fo : Nat → Int64) (fd : Nat → UInt64) (H : Heap) (locs : List Loc) (ls : Array Slot), va_P (dC, dI) vwCl (la_W h c hm cm o od co cod (qa_st r0) t1 fo fd) H → va_D (fun q : Nat => s.heap.size ≤ q) (la_W h c hm cm o od co cod (qa_st r0) t1 fo fd) → va_S (fun q : Nat => s.heap.size ≤ q) s.heap H locs → lv_has ls 9 [(0, .ref b), (1, .ref (h 0)), (2, .ref (hm 0)), (3, .ref o), (4, .ref od), (5, .int x5)] → W p l e room_1 s m #[Value.ref b] below meth cd H locs (cells + 1) (slots + 6) (lw_Z below #[Value.ref b] s) (F0 m 1076 ls [])) : W p l e room_1 s m #[Value.ref b] below meth cd H locs cells slots (lw_Z below #[Value.ref b] s) (F0 m 746 ls []) := by
  obtain ⟨⟨hx, hb, hml, hown, hg, hX, hbl⟩, hl9, hNs, hU, hN, hc1, hc2, hst⟩ := C0
  have hA : ∀ q : Nat, s.heap.size ≤ q → (fun q : Nat => s.heap.size ≤ q) q := fun _ h => h
  have hbA : ¬ (fun q : Nat => s.heap.size ≤ q) b := Nat.not_le.mpr hbl
  refine lv_aload_n hx hb d_A_law_746 rfl (lv_at hl 1 rfl) ?_
  refine lv_aload_n hx hb d_A_law_747 rfl (lv_at hl 0 rfl) ?_
  refine lv_iload hx hb d_A_law_748 (lv_at hl 5 rfl) ?_
  refine lv_iconst (v := 1) hx hb d_A_law_750 (by decide) ?_
  refine lv_iadd hx hb d_A_law_751 ?_
  refine va_sld hx hb hX hbl hbA hS hi1 d_A_law_752 ?_
  refine lv_aload_n hx hb d_A_law_753 rfl (lv_at hl 3 rfl) ?_
  have hPc := hP.sub (ws' := (qa_W h c o co (g, fo))) [0, 1, 2, 3, 4, 5, 6, 7, 8, 9, 10, 11, 12, 13, 14, 15, 16, 30] rfl
  have hDc := hD.sub (ws' := (qa_W h c o co (g, fo))) [0, 1, 2, 3, 4, 5, 6, 7, 8, 9, 10, 11, 12, 13, 14, 15, 16, 30] (by decide) rfl
  have hKc := hK.sub (tys' := qa_T c co) [0, 1, 2, 3, 4, 5, 6, 7, 8, 9, 22] rfl
  have hFc := va_free (wc := (qa_W h c o co (g, fo))) hD hS hA [0, 1, 2, 3, 4, 5, 6, 7, 8, 9, 10, 11, 12, 13, 14, 15, 16, 30] rfl
  refine va_calli (vx_runSW (own := "QuakeServerLaw") (hh := [(0, 9, 12, 13)]) (As := [.ref (h 0), .int (xs (x5 + 1).toNatClampNeg), .ref o]) (rest := []) ⟨hx, hb, hml, hown, hg⟩ (c_A_global l hl9 dC dI h c H.size o co (sa 154) g fo (xs (x5 + 1).toNatClampNeg) r0 h1) (vx_cwSW 3 hg (qs_gSW t_418 t_419 t_0 t_420) rfl rfl rfl (by decide +kernel) ⟨Nat.le_of_ble_eq_true rfl, Nat.le_of_ble_eq_true rfl⟩) ⟨fun a U g mk q => by obtain ⟨q0, q1, qP, qK, qD, qN, qU, qS, qc, qd, qs154⟩ := q; exact ⟨q0, q1, qP, va_K.moved (u := U) (U := U.calling g mk a) (Vm.Alike.refl U.vm) qK, qD, qs_N.same (s := U) (U := U.calling g mk a) rfl qN, vx_Zq.moved (u := U) (U := U.calling g mk a) (Vm.Alike.refl U.vm) qU, vx_Zq.moved (u := U) (U := U.calling g mk a) (Vm.Alike.refl U.vm) qS, va_Nc.moved (u := U) (U := U.calling g mk a) (Vm.Alike.refl U.vm) qc, va_Nc.moved (u := U) (U := U.calling g mk a) (Vm.Alike.refl U.vm) qd, vk_R.same (u := U) (U := U.calling g mk a) rfl qs154⟩, fun U9 hU9 hW9 => ⟨rfl, by rw [hU9], by rw [hU9]; exact hPc, va_K.moved hW9.alike hKc, hDc.weaken (fun _ _ _ _ => trivial), hNs.warm hW9, by rw [hU9]; exact vx_Zq.moved hW9.alike ((hU.kept hS.2.1).narrow hFc), by rw [hU9]; exact vx_Zq.moved hW9.alike ((hN.kept hS.2.1).narrow hFc), hc1.moved hW9.alike, hc2.moved hW9.alike, vk_R.warm hW9 (hst (154, "no such global") (List.mem_of_getElem? (i := 11) rfl))⟩⟩ rfl rfl hl.1 rfl (lv_room (Nat.le_of_ble_eq_true rfl)) d_A_law_754 ⟨hc, hs⟩) hS (fun q _ h => hFc q h) hFc (fun r u T9 H1 locs ht hvm hw hB hz hk hS => ?_)
  obtain ⟨rfl, rfl⟩ := hw
  obtain ⟨hP1, hK1, hD1⟩ := hB
  rw [ht] at hP1
  obtain ⟨hP, hD⟩ := va_join (wr := (ms_W hm cm t ++ [(od, .inl (cod, 1, .inr (.inr (.inr (.inl fd)))))])) (w1 := (qa_W h c o co (qa_st r0, (qa_out r0 fo)))) hP hD [0, 1, 2, 3, 4, 5, 6, 7, 8, 9, 10, 11, 12, 13, 14, 15, 16, 30] [17, 18, 19, 20, 21, 22, 23, 24, 25, 26, 27, 28, 29, 31] rfl rfl (by decide) (by decide) hk hFc hP1 hD1
  have hP := hP.sub (ws' := la_W h c hm cm o od co cod (qa_st r0) t (qa_out r0 fo) fd) [14, 15, 16, 17, 18, 19, 20, 21, 22, 23, 24, 25, 26, 27, 28, 29, 30, 0, 1, 2, 3, 4, 5, 6, 7, 8, 9, 10, 11, 12, 31, 13] rfl
  have hD := hD.sub (ws' := la_W h c hm cm o od co cod (qa_st r0) t (qa_out r0 fo) fd) [14, 15, 16, 17, 18, 19, 20, 21, 22, 23, 24, 25, 26, 27, 28, 29, 30, 0, 1, 2, 3, 4, 5, 6, 7, 8, 9, 10, 11, 12, 31, 13] (by decide) rfl
  generalize H1 = H at hP hS ⊢
  obtain ⟨kk, ekk⟩ : ∃ y : Int32, y = qa_code (["java/lang/IllegalArgumentException"] : List String) r0 := ⟨_, rfl⟩
  rw [← ekk]
  obtain ⟨f9, ef9⟩ : ∃ y, y = (qa_out r0 fo) := ⟨_, rfl⟩
  rw [← ef9] at hP hD
  refine lv_istore (lv' := [(6, .int kk), (0, .ref b), (1, .ref (h 0)), (2, .ref (hm 0)), (3, .ref o), (4, .ref od), (5, .int x5)]) hx hb d_A_law_757 hl (by decide) rfl (fun ls hl => ?_)
  refine lv_aload_n hx hb d_A_law_759 rfl (lv_at hl 3 rfl) ?_
  refine lv_aload_n hx hb d_A_law_760 rfl (lv_at hl 1 rfl) ?_
  refine lv_iload hx hb d_A_law_761 (lv_at hl 6 rfl) ?_
  refine lv_iconst (v := 1) hx hb d_A_law_763 (by decide) ?_
  refine lv_iadd hx hb d_A_law_764 ?_
  refine va_sld hx hb hX hbl hbA hS hi1 d_A_law_765 ?_
  have hPc := hP.sub (ws' := (ms_W hm cm t)) [17, 18, 19, 20, 21, 22, 23, 24, 25, 26, 27, 28, 29] rfl
  have hDc := hD.sub (ws' := (ms_W hm cm t)) [17, 18, 19, 20, 21, 22, 23, 24, 25, 26, 27, 28, 29] (by decide) rfl
  have hKc := hK.sub (tys' := ms_T cm) [10, 11, 12, 13, 14, 15, 16, 17, 18, 19, 20, 21] rfl
  have hFc := va_free (wc := (ms_W hm cm t)) hD hS hA [17, 18, 19, 20, 21, 22, 23, 24, 25, 26, 27, 28, 29] rfl
  refine va_calli (va_runV (own := "QuakeServerLaw") (C := "QuakeServerModel") (As := [.int (xs (x5 + 1).toNatClampNeg)]) (rest := []) ⟨hx, hb, hml, hown, hg⟩ (c_N_global l dC dI hm cm H.size t (xs (x5 + 1).toNatClampNeg) r1 t1 h2) (cwV 1 hg (qs_gV t_749 t_750 t_751 t_8 t_752) rfl rfl rfl (by decide +kernel) ⟨Nat.le_of_ble_eq_true rfl, Nat.le_of_ble_eq_true rfl⟩) ⟨qs_blind, va_recv hKc hPc (ci := 7) (q0 := 0) rfl rfl, fun U9 hU9 hW9 => ⟨rfl, by rw [hU9], by rw [hU9]; exact hPc, va_K.moved hW9.alike hKc, hDc.weaken (fun _ _ _ _ => trivial), hNs.warm hW9⟩⟩ rfl rfl hl.1 rfl (lv_room (Nat.le_of_ble_eq_true rfl)) d_A_law_766 ⟨hc, hs⟩) hS (fun q _ h => hFc q h) hFc (fun r u T9 H1 locs ht hvm hw hB hz hk hS => ?_)
  obtain ⟨rfl, rfl⟩ := hw
  obtain ⟨hP1, hK1, hD1⟩ := hB
  rw [ht] at hP1
  obtain ⟨hP, hD⟩ := va_join (wr := qs_W h c (qa_st r0) ++ [(o, .inl (co, 1, .inr (.inl f9))), (od, .inl (cod, 1, .inr (.inr (.inr (.inl fd)))))]) (w1 := ms_W hm cm u) hP hD [17, 18, 19, 20, 21, 22, 23, 24, 25, 26, 27, 28, 29] [0, 1, 2, 3, 4, 5, 6, 7, 8, 9, 10, 11, 12, 13, 14, 15, 16, 30, 31] rfl rfl (by decide) (by decide) hk hFc hP1 hD1
  have hP := hP.sub (ws' := la_W h c hm cm o od co cod (qa_st r0) u f9 fd) [0, 1, 2, 3, 4, 5, 6, 7, 8, 9, 10, 11, 12, 13, 14, 15, 16, 19, 20, 21, 22, 23, 24, 25, 26, 27, 28, 29, 30, 31, 17, 18] rfl
  have hD := hD.sub (ws' := la_W h c hm cm o od co cod (qa_st r0) u f9 fd) [0, 1, 2, 3, 4, 5, 6, 7, 8, 9, 10, 11, 12, 13, 14, 15, 16, 19, 20, 21, 22, 23, 24, 25, 26, 27, 28, 29, 30, 31, 17, 18] (by decide) rfl
  generalize H1 = H at hP hS ⊢
  obtain ⟨r1, rfl⟩ : ∃ y, y = r := ⟨_, rfl⟩
  obtain ⟨t1, rfl⟩ : ∃ y, y = u := ⟨_, rfl⟩
  have hP : va_P (dC, dI) vwCl (la_W h c hm cm o od co cod (qa_st r0) t1 f9 fd) H := hP
  refine lv_istore (lv' := [(7, .int r1), (6, .int kk), (0, .ref b), (1, .ref (h 0)), (2, .ref (hm 0)), (3, .ref o), (4, .ref od), (5, .int x5)]) hx hb d_A_law_769 hl (by decide) rfl (fun ls hl => ?_)
  refine lv_aload_n hx hb d_A_law_771 rfl (lv_at hl 4 rfl) ?_
  have hPc := hP.sub (ws' := (ms_W hm cm t1)) [17, 18, 19, 20, 21, 22, 23, 24, 25, 26, 27, 28, 29] rfl
  have hDc := hD.sub (ws' := (ms_W hm cm t1)) [17, 18, 19, 20, 21, 22, 23, 24, 25, 26, 27, 28, 29] (by decide) rfl
  have hKc := hK.sub (tys' := ms_T cm) [10, 11, 12, 13, 14, 15, 16, 17, 18, 19, 20, 21] rfl
  have hFc := va_free (wc := (ms_W hm cm t1)) hD hS hA [17, 18, 19, 20, 21, 22, 23, 24, 25, 26, 27, 28, 29] rfl
  refine va_calli (va_runV (own := "QuakeServerLaw") (C := "QuakeServerModel") (As := []) (rest := []) ⟨hx, hb, hml, hown, hg⟩ (c_N_thrown l dC dI hm cm H.size t1 (t1.1 20 0) t1 rfl) (cwV 0 hg (qs_gV t_686 t_687 t_688 t_8 t_689) rfl rfl rfl (by decide +kernel) ⟨Nat.le_of_ble_eq_true rfl, Nat.le_of_ble_eq_true rfl⟩) ⟨qs_blind, va_recv hKc hPc (ci := 7) (q0 := 0) rfl rfl, fun U9 hU9 hW9 => ⟨rfl, by rw [hU9], by rw [hU9]; exact hPc, va_K.moved hW9.alike hKc, hDc.weaken (fun _ _ _ _ => trivial), hNs.warm hW9⟩⟩ rfl rfl hl.1 rfl (lv_room (Nat.le_of_ble_eq_true rfl)) d_A_law_772 ⟨hc, hs⟩) hS (fun q _ h => hFc q h) hFc (fun r u T9 H1 locs ht hvm hw hB hz hk hS => ?_)
  obtain ⟨rfl, rfl⟩ := hw
  obtain ⟨hP1, hK1, hD1⟩ := hB
  rw [ht] at hP1
  obtain ⟨hP, hD⟩ := va_join (wr := qs_W h c (qa_st r0) ++ [(o, .inl (co, 1, .inr (.inl f9))), (od, .inl (cod, 1, .inr (.inr (.inr (.inl fd)))))]) (w1 := ms_W hm cm u) hP hD [17, 18, 19, 20, 21, 22, 23, 24, 25, 26, 27, 28, 29] [0, 1, 2, 3, 4, 5, 6, 7, 8, 9, 10, 11, 12, 13, 14, 15, 16, 30, 31] rfl rfl (by decide) (by decide) hk hFc hP1 hD1
  have hP := hP.sub (ws' := la_W h c hm cm o od co cod (qa_st r0) u f9 fd) [0, 1, 2, 3, 4, 5, 6, 7, 8, 9, 10, 11, 12, 13, 14, 15, 16, 19, 20, 21, 22, 23, 24, 25, 26, 27, 28, 29, 30, 31, 17, 18] rfl
  have hD := hD.sub (ws' := la_W h c hm cm o od co cod (qa_st r0) u f9 fd) [0, 1, 2, 3, 4, 5, 6, 7, 8, 9, 10, 11, 12, 13, 14, 15, 16, 19, 20, 21, 22, 23, 24, 25, 26, 27, 28, 29, 30, 31, 17, 18] (by decide) rfl
  generalize H1 = H at hP hS ⊢
  obtain ⟨t1, rfl⟩ : ∃ y, y = u := ⟨_, rfl⟩
  refine lv_iload hx hb d_A_law_775 (lv_at hl 1 rfl) ?_
  refine lv_icmp_eq (tgt := 782) hx hb d_A_law_777 (by decide) (fun e1 => ?_) (fun e1 => absurd (h3.trans ekk.symm) e1)
  refine lv_iload hx hb d_A_law_782 (lv_at hl 1 rfl) ?_
  have hend : ∀ (H : Heap) (locs : List Loc) (ls : Array Slot), va_P (dC, dI) vwCl (la_W h c hm cm o od co cod (qa_st r0) t1 f9 fd) H → va_D (fun q : Nat => s.heap.size ≤ q) (la_W h c hm cm o od co cod (qa_st r0) t1 f9 fd) → va_S (fun q : Nat => s.heap.size ≤ q) s.heap H locs → lv_has ls 9 [(0, .ref b), (1, .ref (h 0)), (2, .ref (hm 0)), (3, .ref o), (4, .ref od), (5, .int x5)] → W p l e room_1 s m #[Value.ref b] below meth cd H locs (cells + 1) (slots + 6) (lw_Z below #[Value.ref b] s) (F0 m 799 ls []) := fun H locs ls hP hD hS hl => by
    refine lv_goto (tgt := 1076) hx hb d_A_law_799 (by decide) ?_
    exact k9 _ _ H locs ls hP hD hS hl
  refine lv_if_ne (tgt := 799) hx hb d_A_law_784 (by decide) (fun e2 => ?_) (fun e2 => ?_)
  · exact hend _ _ _ hP hD hS (lv_sub hl [2, 3, 4, 5, 6, 7] rfl)
  · obtain ⟨a9, u9, e9⟩ := qa_code0 (Nat.le_of_ble_eq_true rfl) (ekk.symm.trans e2)
    refine lv_aload_n hx hb d_A_law_787 rfl (lv_at hl 5 rfl) ?_
    refine lv_iconst (v := 0) hx hb d_A_law_788 (by decide) ?_
    refine va_lald hx hb hK hP 30 22 rfl rfl qa_in0 d_A_law_789 ?_
    refine lv_iload hx hb d_A_law_790 (lv_at hl 0 rfl) ?_
    refine lv_i2l (v := r1.toInt64) hx hb d_A_law_792 rfl ?_
    refine W.lcmp hx hb d_A_law_793 ?_
    refine lv_if_eq (tgt := 799) hx hb d_A_law_794 (by decide) (fun e3 => hend _ _ _ hP hD hS (lv_sub hl [2, 3, 4, 5, 6, 7] rfl)) (fun e3 => absurd (by rw [ef9, e9, ← h4 a9 u9 e9]; exact la_cmp0 _) e3)
set_option maxHeartbeats 4000000 in
set_option maxRecDepth 100000 in
theorem la_run {p : Program} {l : Launch} {e : Env} {s : State} {m : MethodId} {below : List Frame} {meth : Method} {cd : Code} {b L : Nat} {xs : Nat → Int32} (dC : Nat → ClassId) (dI : Nat → Nat → Nat) (h : Nat → Nat) (c : Nat → ClassId) (hm : Nat → Nat) (cm : Nat → ClassId) (o od : Nat) (co cod : ClassId) (sa : Nat → Nat) (C0 : la_C l p s m meth cd b L xs sa) (g : Sg) (t : Sm) (fo : Nat → Int64) (fd : Nat → UInt64) (x5 : Int32) (hi1 : vp_in (x5 + 1) L) (hi2 : vp_in (x5 + 2) L) (hi3 : vp_in (x5 + 3) L) (r0 : (String × Sg) ⊕ (Int32 × Sg)) (r1 : Int32) (t1 : Sm) (h1 : f_Q_run g (xs (x5 + 1).toNatClampNeg) (xs (x5 + 2).toNatClampNeg) (xs (x5 + 3).toNatClampNeg) = some r0) (h2 : f_N_run t (xs (x5 + 1).toNatClampNeg) (xs (x5 + 2).toNatClampNeg) (xs (x5 + 3).toNatClampNeg) = some (r1, t1)) (h3 : t1.1 20 0 = qa_code (["java/lang/IllegalArgumentException"] : List String) r0) (h4 : ∀ r u, r0 = .inr (r, u) → r = r1) {cells slots : Nat} (hc : cells + 1 ≤ 1074) (hs : slots + 6 ≤ 9958) {H : Heap} {locs : List Loc} {ls : Array Slot} (hK : va_K (dC, dI) vwCl (la_T c cm co cod) s) (hP : va_P (dC, dI) vwCl (la_W h c hm cm o od co cod g t fo fd) H) (hD : va_D (fun q : Nat => s.heap.size ≤ q) (la_W h c hm cm o od co cod g t fo fd)) (hS : va_S (fun q : Nat => s.heap.size ≤ q) s.heap H locs) (hl : lv_has ls 9 [(0, .ref b), (1, .ref (h 0)), (2, .ref (hm 0)), (3, .ref o), (4, .ref od), (5, .int x5)]) (k9 : ∀ (fo : Nat → Int64) (fd : Nat → UInt64) (H : Heap) (locs : List Loc) (ls : Array Slot), va_P (dC, dI) vwCl (la_W h c hm cm o od co cod (qa_st r0) t1 fo fd) H → va_D (fun q : Nat => s.heap.size ≤ q) (la_W h c hm cm o od co cod (qa_st r0) t1 fo fd) → va_S (fun q : Nat => s.heap.size ≤ q) s.heap H locs → lv_has ls 9 [(0, .ref b), (1, .ref (h 0)), (2, .ref (hm 0)), (3, .ref o), (4, .ref od), (5, .int x5)] → W p l e room_1 s m #[Value.ref b] below meth cd H locs (cells + 1) (slots + 6) (lw_Z below #[Value.ref b] s) (F0 m 1076 ls [])) : W p l e room_1 s m #[Value.ref b] below meth cd H locs cells slots (lw_Z below #[Value.ref b] s) (F0 m 802 ls []) := by
  obtain ⟨⟨hx, hb, hml, hown, hg, hX, hbl⟩, hl9, hNs, hU, hN, hc1, hc2, hst⟩ := C0
  have hA : ∀ q : Nat, s.heap.size ≤ q → (fun q : Nat => s.heap.size ≤ q) q := fun _ h => h
  have hbA : ¬ (fun q : Nat => s.heap.size ≤ q) b := Nat.not_le.mpr hbl
  refine lv_aload_n hx hb d_A_law_802 rfl (lv_at hl 1 rfl) ?_
  refine lv_aload_n hx hb d_A_law_803 rfl (lv_at hl 0 rfl) ?_
  refine lv_iload hx hb d_A_law_804 (lv_at hl 5 rfl) ?_
  refine lv_iconst (v := 1) hx hb d_A_law_806 (by decide) ?_
  refine lv_iadd hx hb d_A_law_807 ?_
  refine va_sld hx hb hX hbl hbA hS hi1 d_A_law_808 ?_
  refine lv_aload_n hx hb d_A_law_809 rfl (lv_at hl 0 rfl) ?_
  refine lv_iload hx hb d_A_law_810 (lv_at hl 5 rfl) ?_
  refine lv_iconst (v := 2) hx hb d_A_law_812 (by decide) ?_
  refine lv_iadd hx hb d_A_law_813 ?_
  refine va_sld hx hb hX hbl hbA hS hi2 d_A_law_814 ?_
  refine lv_aload_n hx hb d_A_law_815 rfl (lv_at hl 0 rfl) ?_
  refine lv_iload hx hb d_A_law_816 (lv_at hl 5 rfl) ?_
  refine lv_iconst (v := 3) hx hb d_A_law_818 (by decide) ?_
  refine lv_iadd hx hb d_A_law_819 ?_
  refine va_sld hx hb hX hbl hbA hS hi3 d_A_law_820 ?_
  refine lv_aload_n hx hb d_A_law_821 rfl (lv_at hl 3 rfl) ?_
  have hPc := hP.sub (ws' := (qa_W h c o co (g, fo))) [0, 1, 2, 3, 4, 5, 6, 7, 8, 9, 10, 11, 12, 13, 14, 15, 16, 30] rfl
  have hDc := hD.sub (ws' := (qa_W h c o co (g, fo))) [0, 1, 2, 3, 4, 5, 6, 7, 8, 9, 10, 11, 12, 13, 14, 15, 16, 30] (by decide) rfl
  have hKc := hK.sub (tys' := qa_T c co) [0, 1, 2, 3, 4, 5, 6, 7, 8, 9, 22] rfl
  have hFc := va_free (wc := (qa_W h c o co (g, fo))) hD hS hA [0, 1, 2, 3, 4, 5, 6, 7, 8, 9, 10, 11, 12, 13, 14, 15, 16, 30] rfl
  refine va_calli (vx_runSW (own := "QuakeServerLaw") (hh := [(0, 12, 15, 13)]) (As := [.ref (h 0), .int (xs (x5 + 1).toNatClampNeg), .int (xs (x5 + 2).toNatClampNeg), .int (xs (x5 + 3).toNatClampNeg), .ref o]) (rest := []) ⟨hx, hb, hml, hown, hg⟩ (c_A_run l hl9 dC dI h c H.size o co (sa 159) g fo (xs (x5 + 1).toNatClampNeg) (xs (x5 + 2).toNatClampNeg) (xs (x5 + 3).toNatClampNeg) r0 h1) (vx_cwSW 5 hg (qs_gSW t_426 t_427 t_0 t_428) rfl rfl rfl (by decide +kernel) ⟨Nat.le_of_ble_eq_true rfl, Nat.le_of_ble_eq_true rfl⟩) ⟨fun a U g mk q => by obtain ⟨q0, q1, qP, qK, qD, qN, qU, qS, qc, qd, qs159⟩ := q; exact ⟨q0, q1, qP, va_K.moved (u := U) (U := U.calling g mk a) (Vm.Alike.refl U.vm) qK, qD, qs_N.same (s := U) (U := U.calling g mk a) rfl qN, vx_Zq.moved (u := U) (U := U.calling g mk a) (Vm.Alike.refl U.vm) qU, vx_Zq.moved (u := U) (U := U.calling g mk a) (Vm.Alike.refl U.vm) qS, va_Nc.moved (u := U) (U := U.calling g mk a) (Vm.Alike.refl U.vm) qc, va_Nc.moved (u := U) (U := U.calling g mk a) (Vm.Alike.refl U.vm) qd, vk_R.same (u := U) (U := U.calling g mk a) rfl qs159⟩, fun U9 hU9 hW9 => ⟨rfl, by rw [hU9], by rw [hU9]; exact hPc, va_K.moved hW9.alike hKc, hDc.weaken (fun _ _ _ _ => trivial), hNs.warm hW9, by rw [hU9]; exact vx_Zq.moved hW9.alike ((hU.kept hS.2.1).narrow hFc), by rw [hU9]; exact vx_Zq.moved hW9.alike ((hN.kept hS.2.1).narrow hFc), hc1.moved hW9.alike, hc2.moved hW9.alike, vk_R.warm hW9 (hst (159, "no such function or entity") (List.mem_of_getElem? (i := 12) rfl))⟩⟩ rfl rfl hl.1 rfl (lv_room (Nat.le_of_ble_eq_true rfl)) d_A_law_822 ⟨hc, hs⟩) hS (fun q _ h => hFc q h) hFc (fun r u T9 H1 locs ht hvm hw hB hz hk hS => ?_)
  obtain ⟨rfl, rfl⟩ := hw
  obtain ⟨hP1, hK1, hD1⟩ := hB
  rw [ht] at hP1
  obtain ⟨hP, hD⟩ := va_join (wr := (ms_W hm cm t ++ [(od, .inl (cod, 1, .inr (.inr (.inr (.inl fd)))))])) (w1 := (qa_W h c o co (qa_st r0, (qa_out r0 fo)))) hP hD [0, 1, 2, 3, 4, 5, 6, 7, 8, 9, 10, 11, 12, 13, 14, 15, 16, 30] [17, 18, 19, 20, 21, 22, 23, 24, 25, 26, 27, 28, 29, 31] rfl rfl (by decide) (by decide) hk hFc hP1 hD1
  have hP := hP.sub (ws' := la_W h c hm cm o od co cod (qa_st r0) t (qa_out r0 fo) fd) [14, 15, 16, 17, 18, 19, 20, 21, 22, 23, 24, 25, 26, 27, 28, 29, 30, 0, 1, 2, 3, 4, 5, 6, 7, 8, 9, 10, 11, 12, 31, 13] rfl
  have hD := hD.sub (ws' := la_W h c hm cm o od co cod (qa_st r0) t (qa_out r0 fo) fd) [14, 15, 16, 17, 18, 19, 20, 21, 22, 23, 24, 25, 26, 27, 28, 29, 30, 0, 1, 2, 3, 4, 5, 6, 7, 8, 9, 10, 11, 12, 31, 13] (by decide) rfl
  generalize H1 = H at hP hS ⊢
  obtain ⟨kk, ekk⟩ : ∃ y : Int32, y = qa_code (["java/lang/IllegalArgumentException"] : List String) r0 := ⟨_, rfl⟩
  rw [← ekk]
  obtain ⟨f9, ef9⟩ : ∃ y, y = (qa_out r0 fo) := ⟨_, rfl⟩
  rw [← ef9] at hP hD
  refine lv_istore (lv' := [(6, .int kk), (0, .ref b), (1, .ref (h 0)), (2, .ref (hm 0)), (3, .ref o), (4, .ref od), (5, .int x5)]) hx hb d_A_law_825 hl (by decide) rfl (fun ls hl => ?_)
  refine lv_aload_n hx hb d_A_law_827 rfl (lv_at hl 3 rfl) ?_
  refine lv_aload_n hx hb d_A_law_828 rfl (lv_at hl 1 rfl) ?_
  refine lv_iload hx hb d_A_law_829 (lv_at hl 6 rfl) ?_
  refine lv_iconst (v := 1) hx hb d_A_law_831 (by decide) ?_
  refine lv_iadd hx hb d_A_law_832 ?_
  refine va_sld hx hb hX hbl hbA hS hi1 d_A_law_833 ?_
  refine lv_aload_n hx hb d_A_law_834 rfl (lv_at hl 1 rfl) ?_
  refine lv_iload hx hb d_A_law_835 (lv_at hl 6 rfl) ?_
  refine lv_iconst (v := 2) hx hb d_A_law_837 (by decide) ?_
  refine lv_iadd hx hb d_A_law_838 ?_
  refine va_sld hx hb hX hbl hbA hS hi2 d_A_law_839 ?_
  refine lv_aload_n hx hb d_A_law_840 rfl (lv_at hl 1 rfl) ?_
  refine lv_iload hx hb d_A_law_841 (lv_at hl 6 rfl) ?_
  refine lv_iconst (v := 3) hx hb d_A_law_843 (by decide) ?_
  refine lv_iadd hx hb d_A_law_844 ?_
  refine va_sld hx hb hX hbl hbA hS hi3 d_A_law_845 ?_
  have hPc := hP.sub (ws' := (ms_W hm cm t)) [17, 18, 19, 20, 21, 22, 23, 24, 25, 26, 27, 28, 29] rfl
  have hDc := hD.sub (ws' := (ms_W hm cm t)) [17, 18, 19, 20, 21, 22, 23, 24, 25, 26, 27, 28, 29] (by decide) rfl
  have hKc := hK.sub (tys' := ms_T cm) [10, 11, 12, 13, 14, 15, 16, 17, 18, 19, 20, 21] rfl
  have hFc := va_free (wc := (ms_W hm cm t)) hD hS hA [17, 18, 19, 20, 21, 22, 23, 24, 25, 26, 27, 28, 29] rfl
  refine va_calli (va_runV (own := "QuakeServerLaw") (C := "QuakeServerModel") (As := [.int (xs (x5 + 1).toNatClampNeg), .int (xs (x5 + 2).toNatClampNeg), .int (xs (x5 + 3).toNatClampNeg)]) (rest := []) ⟨hx, hb, hml, hown, hg⟩ (c_N_run l dC dI hm cm H.size t (xs (x5 + 1).toNatClampNeg) (xs (x5 + 2).toNatClampNeg) (xs (x5 + 3).toNatClampNeg) r1 t1 h2) (cwV 3 hg (qs_gV t_753 t_754 t_755 t_8 t_756) rfl rfl rfl (by decide +kernel) ⟨Nat.le_of_ble_eq_true rfl, Nat.le_of_ble_eq_true rfl⟩) ⟨qs_blind, va_recv hKc hPc (ci := 7) (q0 := 0) rfl rfl, fun U9 hU9 hW9 => ⟨rfl, by rw [hU9], by rw [hU9]; exact hPc, va_K.moved hW9.alike hKc, hDc.weaken (fun _ _ _ _ => trivial), hNs.warm hW9⟩⟩ rfl rfl hl.1 rfl (lv_room (Nat.le_of_ble_eq_true rfl)) d_A_law_846 ⟨hc, hs⟩) hS (fun q _ h => hFc q h) hFc (fun r u T9 H1 locs ht hvm hw hB hz hk hS => ?_)
  obtain ⟨rfl, rfl⟩ := hw
  obtain ⟨hP1, hK1, hD1⟩ := hB
  rw [ht] at hP1
  obtain ⟨hP, hD⟩ := va_join (wr := qs_W h c (qa_st r0) ++ [(o, .inl (co, 1, .inr (.inl f9))), (od, .inl (cod, 1, .inr (.inr (.inr (.inl fd)))))]) (w1 := ms_W hm cm u) hP hD [17, 18, 19, 20, 21, 22, 23, 24, 25, 26, 27, 28, 29] [0, 1, 2, 3, 4, 5, 6, 7, 8, 9, 10, 11, 12, 13, 14, 15, 16, 30, 31] rfl rfl (by decide) (by decide) hk hFc hP1 hD1
  have hP := hP.sub (ws' := la_W h c hm cm o od co cod (qa_st r0) u f9 fd) [0, 1, 2, 3, 4, 5, 6, 7, 8, 9, 10, 11, 12, 13, 14, 15, 16, 19, 20, 21, 22, 23, 24, 25, 26, 27, 28, 29, 30, 31, 17, 18] rfl
  have hD := hD.sub (ws' := la_W h c hm cm o od co cod (qa_st r0) u f9 fd) [0, 1, 2, 3, 4, 5, 6, 7, 8, 9, 10, 11, 12, 13, 14, 15, 16, 19, 20, 21, 22, 23, 24, 25, 26, 27, 28, 29, 30, 31, 17, 18] (by decide) rfl
  generalize H1 = H at hP hS ⊢
  obtain ⟨r1, rfl⟩ : ∃ y, y = r := ⟨_, rfl⟩
  obtain ⟨t1, rfl⟩ : ∃ y, y = u := ⟨_, rfl⟩
  have hP : va_P (dC, dI) vwCl (la_W h c hm cm o od co cod (qa_st r0) t1 f9 fd) H := hP
  refine lv_istore (lv' := [(7, .int r1), (6, .int kk), (0, .ref b), (1, .ref (h 0)), (2, .ref (hm 0)), (3, .ref o), (4, .ref od), (5, .int x5)]) hx hb d_A_law_849 hl (by decide) rfl (fun ls hl => ?_)
  refine lv_aload_n hx hb d_A_law_851 rfl (lv_at hl 4 rfl) ?_
  have hPc := hP.sub (ws' := (ms_W hm cm t1)) [17, 18, 19, 20, 21, 22, 23, 24, 25, 26, 27, 28, 29] rfl
  have hDc := hD.sub (ws' := (ms_W hm cm t1)) [17, 18, 19, 20, 21, 22, 23, 24, 25, 26, 27, 28, 29] (by decide) rfl
  have hKc := hK.sub (tys' := ms_T cm) [10, 11, 12, 13, 14, 15, 16, 17, 18, 19, 20, 21] rfl
  have hFc := va_free (wc := (ms_W hm cm t1)) hD hS hA [17, 18, 19, 20, 21, 22, 23, 24, 25, 26, 27, 28, 29] rfl
  refine va_calli (va_runV (own := "QuakeServerLaw") (C := "QuakeServerModel") (As := []) (rest := []) ⟨hx, hb, hml, hown, hg⟩ (c_N_thrown l dC dI hm cm H.size t1 (t1.1 20 0) t1 rfl) (cwV 0 hg (qs_gV t_686 t_687 t_688 t_8 t_689) rfl rfl rfl (by decide +kernel) ⟨Nat.le_of_ble_eq_true rfl, Nat.le_of_ble_eq_true rfl⟩) ⟨qs_blind, va_recv hKc hPc (ci := 7) (q0 := 0) rfl rfl, fun U9 hU9 hW9 => ⟨rfl, by rw [hU9], by rw [hU9]; exact hPc, va_K.moved hW9.alike hKc, hDc.weaken (fun _ _ _ _ => trivial), hNs.warm hW9⟩⟩ rfl rfl hl.1 rfl (lv_room (Nat.le_of_ble_eq_true rfl)) d_A_law_852 ⟨hc, hs⟩) hS (fun q _ h => hFc q h) hFc (fun r u T9 H1 locs ht hvm hw hB hz hk hS => ?_)
  obtain ⟨rfl, rfl⟩ := hw
  obtain ⟨hP1, hK1, hD1⟩ := hB
  rw [ht] at hP1
  obtain ⟨hP, hD⟩ := va_join (wr := qs_W h c (qa_st r0) ++ [(o, .inl (co, 1, .inr (.inl f9))), (od, .inl (cod, 1, .inr (.inr (.inr (.inl fd)))))]) (w1 := ms_W hm cm u) hP hD [17, 18, 19, 20, 21, 22, 23, 24, 25, 26, 27, 28, 29] [0, 1, 2, 3, 4, 5, 6, 7, 8, 9, 10, 11, 12, 13, 14, 15, 16, 30, 31] rfl rfl (by decide) (by decide) hk hFc hP1 hD1
  have hP := hP.sub (ws' := la_W h c hm cm o od co cod (qa_st r0) u f9 fd) [0, 1, 2, 3, 4, 5, 6, 7, 8, 9, 10, 11, 12, 13, 14, 15, 16, 19, 20, 21, 22, 23, 24, 25, 26, 27, 28, 29, 30, 31, 17, 18] rfl
  have hD := hD.sub (ws' := la_W h c hm cm o od co cod (qa_st r0) u f9 fd) [0, 1, 2, 3, 4, 5, 6, 7, 8, 9, 10, 11, 12, 13, 14, 15, 16, 19, 20, 21, 22, 23, 24, 25, 26, 27, 28, 29, 30, 31, 17, 18] (by decide) rfl
  generalize H1 = H at hP hS ⊢
  obtain ⟨t1, rfl⟩ : ∃ y, y = u := ⟨_, rfl⟩
  refine lv_iload hx hb d_A_law_855 (lv_at hl 1 rfl) ?_
  refine lv_icmp_eq (tgt := 862) hx hb d_A_law_857 (by decide) (fun e1 => ?_) (fun e1 => absurd (h3.trans ekk.symm) e1)
  refine lv_iload hx hb d_A_law_862 (lv_at hl 1 rfl) ?_
  have hend : ∀ (H : Heap) (locs : List Loc) (ls : Array Slot), va_P (dC, dI) vwCl (la_W h c hm cm o od co cod (qa_st r0) t1 f9 fd) H → va_D (fun q : Nat => s.heap.size ≤ q) (la_W h c hm cm o od co cod (qa_st r0) t1 f9 fd) → va_S (fun q : Nat => s.heap.size ≤ q) s.heap H locs → lv_has ls 9 [(0, .ref b), (1, .ref (h 0)), (2, .ref (hm 0)), (3, .ref o), (4, .ref od), (5, .int x5)] → W p l e room_1 s m #[Value.ref b] below meth cd H locs (cells + 1) (slots + 6) (lw_Z below #[Value.ref b] s) (F0 m 879 ls []) := fun H locs ls hP hD hS hl => by
    refine lv_goto (tgt := 1076) hx hb d_A_law_879 (by decide) ?_
    exact k9 _ _ H locs ls hP hD hS hl
  refine lv_if_ne (tgt := 879) hx hb d_A_law_864 (by decide) (fun e2 => ?_) (fun e2 => ?_)
  · exact hend _ _ _ hP hD hS (lv_sub hl [2, 3, 4, 5, 6, 7] rfl)
  · obtain ⟨a9, u9, e9⟩ := qa_code0 (Nat.le_of_ble_eq_true rfl) (ekk.symm.trans e2)
    refine lv_aload_n hx hb d_A_law_867 rfl (lv_at hl 5 rfl) ?_
    refine lv_iconst (v := 0) hx hb d_A_law_868 (by decide) ?_
    refine va_lald hx hb hK hP 30 22 rfl rfl qa_in0 d_A_law_869 ?_
    refine lv_iload hx hb d_A_law_870 (lv_at hl 0 rfl) ?_
    refine lv_i2l (v := r1.toInt64) hx hb d_A_law_872 rfl ?_
    refine W.lcmp hx hb d_A_law_873 ?_
    refine lv_if_eq (tgt := 879) hx hb d_A_law_874 (by decide) (fun e3 => hend _ _ _ hP hD hS (lv_sub hl [2, 3, 4, 5, 6, 7] rfl)) (fun e3 => absurd (by rw [ef9, e9, ← h4 a9 u9 e9]; exact la_cmp0 _) e3)
