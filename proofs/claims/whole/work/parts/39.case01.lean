set_option maxHeartbeats 4000000 in
set_option maxRecDepth 100000 in
theorem la_remove {p : Program} {l : Launch} {e : Env} {s : State} {m : MethodId} {below : List Frame} {meth : Method} {cd : Code} {b L : Nat} {xs : Nat → Int32} (dC : Nat → ClassId) (dI : Nat → Nat → Nat) (h : Nat → Nat) (c : Nat → ClassId) (hm : Nat → Nat) (cm : Nat → ClassId) (o od : Nat) (co cod : ClassId) (sa : Nat → Nat) (C0 : la_C l p s m meth cd b L xs sa) (g : Sg) (t : Sm) (fo : Nat → Int64) (fd : Nat → UInt64) (x5 : Int32) (hi1 : vp_in (x5 + 1) L) (r0 : (String × Sg) ⊕ (Int32 × Sg)) (r1 : Int32) (t1 : Sm) (h1 : f_Q_remove g (xs (x5 + 1).toNatClampNeg) = some r0) (h2 : f_N_remove t (xs (x5 + 1).toNatClampNeg) = some (r1, t1)) (h3 : t1.1 20 0 = qa_code (["java/util/NoSuchElementException"] : List String) r0) (h4 : ∀ r u, r0 = .inr (r, u) → r = r1) {cells slots : Nat} (hc : cells + 1 ≤ 1074) (hs : slots + 6 ≤ 9958) {H : Heap} {locs : List Loc} {ls : Array Slot} (hK : va_K (dC, dI) vwCl (la_T c cm co cod) s) (hP : va_P (dC, dI) vwCl (la_W h c hm cm o od co cod g t fo fd) H) (hD : va_D (fun q : Nat => s.heap.size ≤ q) (la_W h c hm cm o od co cod g t fo fd)) (hS : va_S (fun q : Nat => s.heap.size ≤ q) s.heap H locs) (hl : lv_has ls 9 [(0, .ref b), (1, .ref (h 0)), (2, .ref (hm 0)), (3, .ref o), (4, .ref od), (5, .int x5)]) (k9 : ∀ (fo : Nat → Int64) (fd : Nat → UInt64) (H : Heap) (locs : List Loc) (ls : Array Slot), va_P (dC, dI) vwCl (la_W h c hm cm o od co cod (qa_st r0) t1 fo fd) H → va_D (fun q : Nat => s.heap.size ≤ q) (la_W h c hm cm o od co cod (qa_st r0) t1 fo fd) → va_S (fun q : Nat => s.heap.size ≤ q) s.heap H locs → lv_has ls 9 [(0, .ref b), (1, .ref (h 0)), (2, .ref (hm 0)), (3, .ref o), (4, .ref od), (5, .int x5)] → W p l e room_1 s m #[Value.ref b] below meth cd H locs (cells + 1) (slots + 6) (lw_Z below #[Value.ref b] s) (F0 m 1076 ls [])) : W p l e room_1 s m #[Value.ref b] below meth cd H locs cells slots (lw_Z below #[Value.ref b] s) (F0 m 422 ls []) := by
  obtain ⟨⟨hx, hb, hml, hown, hg, hX, hbl⟩, hl9, hNs, hU, hN, hc1, hc2, hst⟩ := C0
  have hA : ∀ q : Nat, s.heap.size ≤ q → (fun q : Nat => s.heap.size ≤ q) q := fun _ h => h
  have hbA : ¬ (fun q : Nat => s.heap.size ≤ q) b := Nat.not_le.mpr hbl
  refine lv_aload_n hx hb d_A_law_422 rfl (lv_at hl 1 rfl) ?_
  refine lv_aload_n hx hb d_A_law_423 rfl (lv_at hl 0 rfl) ?_
  refine lv_iload hx hb d_A_law_424 (lv_at hl 5 rfl) ?_
  refine lv_iconst (v := 1) hx hb d_A_law_426 (by decide) ?_
  refine lv_iadd hx hb d_A_law_427 ?_
  refine va_sld hx hb hX hbl hbA hS hi1 d_A_law_428 ?_
  refine lv_aload_n hx hb d_A_law_429 rfl (lv_at hl 3 rfl) ?_
  have hPc := hP.sub (ws' := (qa_W h c o co (g, fo))) [0, 1, 2, 3, 4, 5, 6, 7, 8, 9, 10, 11, 12, 13, 14, 15, 16, 30] rfl
  have hDc := hD.sub (ws' := (qa_W h c o co (g, fo))) [0, 1, 2, 3, 4, 5, 6, 7, 8, 9, 10, 11, 12, 13, 14, 15, 16, 30] (by decide) rfl
  have hKc := hK.sub (tys' := qa_T c co) [0, 1, 2, 3, 4, 5, 6, 7, 8, 9, 22] rfl
  have hFc := va_free (wc := (qa_W h c o co (g, fo))) hD hS hA [0, 1, 2, 3, 4, 5, 6, 7, 8, 9, 10, 11, 12, 13, 14, 15, 16, 30] rfl
  refine va_calli (vx_runSW (own := "QuakeServerLaw") (hh := [(0, 9, 12, 29)]) (As := [.ref (h 0), .int (xs (x5 + 1).toNatClampNeg), .ref o]) (rest := []) ⟨hx, hb, hml, hown, hg⟩ (c_A_remove l hl9 dC dI h c H.size o co (sa 127) g fo (xs (x5 + 1).toNatClampNeg) r0 h1) (vx_cwSW 3 hg (qs_gSW t_359 t_360 t_0 t_361) rfl rfl rfl (by decide +kernel) ⟨Nat.le_of_ble_eq_true rfl, Nat.le_of_ble_eq_true rfl⟩) ⟨fun a U g mk q => by obtain ⟨q0, q1, qP, qK, qD, qN, qU, qS, qc, qd, qs127⟩ := q; exact ⟨q0, q1, qP, va_K.moved (u := U) (U := U.calling g mk a) (Vm.Alike.refl U.vm) qK, qD, qs_N.same (s := U) (U := U.calling g mk a) rfl qN, vx_Zq.moved (u := U) (U := U.calling g mk a) (Vm.Alike.refl U.vm) qU, vx_Zq.moved (u := U) (U := U.calling g mk a) (Vm.Alike.refl U.vm) qS, va_Nc.moved (u := U) (U := U.calling g mk a) (Vm.Alike.refl U.vm) qc, va_Nc.moved (u := U) (U := U.calling g mk a) (Vm.Alike.refl U.vm) qd, vk_R.same (u := U) (U := U.calling g mk a) rfl qs127⟩, fun U9 hU9 hW9 => ⟨rfl, by rw [hU9], by rw [hU9]; exact hPc, va_K.moved hW9.alike hKc, hDc.weaken (fun _ _ _ _ => trivial), hNs.warm hW9, by rw [hU9]; exact vx_Zq.moved hW9.alike ((hU.kept hS.2.1).narrow hFc), by rw [hU9]; exact vx_Zq.moved hW9.alike ((hN.kept hS.2.1).narrow hFc), hc1.moved hW9.alike, hc2.moved hW9.alike, vk_R.warm hW9 (hst (127, "the entity is not there") (List.mem_of_getElem? (i := 7) rfl))⟩⟩ rfl rfl hl.1 rfl (lv_room (Nat.le_of_ble_eq_true rfl)) d_A_law_430 ⟨hc, hs⟩) hS (fun q _ h => hFc q h) hFc (fun r u T9 H1 locs ht hvm hw hB hz hk hS => ?_)
  obtain ⟨rfl, rfl⟩ := hw
  obtain ⟨hP1, hK1, hD1⟩ := hB
  rw [ht] at hP1
  obtain ⟨hP, hD⟩ := va_join (wr := (ms_W hm cm t ++ [(od, .inl (cod, 1, .inr (.inr (.inr (.inl fd)))))])) (w1 := (qa_W h c o co (qa_st r0, (qa_out r0 fo)))) hP hD [0, 1, 2, 3, 4, 5, 6, 7, 8, 9, 10, 11, 12, 13, 14, 15, 16, 30] [17, 18, 19, 20, 21, 22, 23, 24, 25, 26, 27, 28, 29, 31] rfl rfl (by decide) (by decide) hk hFc hP1 hD1
  have hP := hP.sub (ws' := la_W h c hm cm o od co cod (qa_st r0) t (qa_out r0 fo) fd) [14, 15, 16, 17, 18, 19, 20, 21, 22, 23, 24, 25, 26, 27, 28, 29, 30, 0, 1, 2, 3, 4, 5, 6, 7, 8, 9, 10, 11, 12, 31, 13] rfl
  have hD := hD.sub (ws' := la_W h c hm cm o od co cod (qa_st r0) t (qa_out r0 fo) fd) [14, 15, 16, 17, 18, 19, 20, 21, 22, 23, 24, 25, 26, 27, 28, 29, 30, 0, 1, 2, 3, 4, 5, 6, 7, 8, 9, 10, 11, 12, 31, 13] (by decide) rfl
  generalize H1 = H at hP hS ⊢
  obtain ⟨kk, ekk⟩ : ∃ y : Int32, y = qa_code (["java/util/NoSuchElementException"] : List String) r0 := ⟨_, rfl⟩
  rw [← ekk]
  obtain ⟨f9, ef9⟩ : ∃ y, y = (qa_out r0 fo) := ⟨_, rfl⟩
  rw [← ef9] at hP hD
  refine lv_istore (lv' := [(6, .int kk), (0, .ref b), (1, .ref (h 0)), (2, .ref (hm 0)), (3, .ref o), (4, .ref od), (5, .int x5)]) hx hb d_A_law_433 hl (by decide) rfl (fun ls hl => ?_)
  refine lv_aload_n hx hb d_A_law_435 rfl (lv_at hl 3 rfl) ?_
  refine lv_aload_n hx hb d_A_law_436 rfl (lv_at hl 1 rfl) ?_
  refine lv_iload hx hb d_A_law_437 (lv_at hl 6 rfl) ?_
  refine lv_iconst (v := 1) hx hb d_A_law_439 (by decide) ?_
  refine lv_iadd hx hb d_A_law_440 ?_
  refine va_sld hx hb hX hbl hbA hS hi1 d_A_law_441 ?_
  have hPc := hP.sub (ws' := (ms_W hm cm t)) [17, 18, 19, 20, 21, 22, 23, 24, 25, 26, 27, 28, 29] rfl
  have hDc := hD.sub (ws' := (ms_W hm cm t)) [17, 18, 19, 20, 21, 22, 23, 24, 25, 26, 27, 28, 29] (by decide) rfl
  have hKc := hK.sub (tys' := ms_T cm) [10, 11, 12, 13, 14, 15, 16, 17, 18, 19, 20, 21] rfl
  have hFc := va_free (wc := (ms_W hm cm t)) hD hS hA [17, 18, 19, 20, 21, 22, 23, 24, 25, 26, 27, 28, 29] rfl
  refine va_calli (va_runV (own := "QuakeServerLaw") (C := "QuakeServerModel") (As := [.int (xs (x5 + 1).toNatClampNeg)]) (rest := []) ⟨hx, hb, hml, hown, hg⟩ (c_N_remove l dC dI hm cm H.size t (xs (x5 + 1).toNatClampNeg) r1 t1 h2) (cwV 1 hg (qs_gV t_726 t_727 t_728 t_8 t_729) rfl rfl rfl (by decide +kernel) ⟨Nat.le_of_ble_eq_true rfl, Nat.le_of_ble_eq_true rfl⟩) ⟨qs_blind, va_recv hKc hPc (ci := 7) (q0 := 0) rfl rfl, fun U9 hU9 hW9 => ⟨rfl, by rw [hU9], by rw [hU9]; exact hPc, va_K.moved hW9.alike hKc, hDc.weaken (fun _ _ _ _ => trivial), hNs.warm hW9⟩⟩ rfl rfl hl.1 rfl (lv_room (Nat.le_of_ble_eq_true rfl)) d_A_law_442 ⟨hc, hs⟩) hS (fun q _ h => hFc q h) hFc (fun r u T9 H1 locs ht hvm hw hB hz hk hS => ?_)
  obtain ⟨rfl, rfl⟩ := hw
  obtain ⟨hP1, hK1, hD1⟩ := hB
  rw [ht] at hP1
  obtain ⟨hP, hD⟩ := va_join (wr := qs_W h c (qa_st r0) ++ [(o, .inl (co, 1, .inr (.inl f9))), (od, .inl (cod, 1, .inr (.inr (.inr (.inl fd)))))]) (w1 := ms_W hm cm u) hP hD [17, 18, 19, 20, 21, 22, 23, 24, 25, 26, 27, 28, 29] [0, 1, 2, 3, 4, 5, 6, 7, 8, 9, 10, 11, 12, 13, 14, 15, 16, 30, 31] rfl rfl (by decide) (by decide) hk hFc hP1 hD1
  have hP := hP.sub (ws' := la_W h c hm cm o od co cod (qa_st r0) u f9 fd) [0, 1, 2, 3, 4, 5, 6, 7, 8, 9, 10, 11, 12, 13, 14, 15, 16, 19, 20, 21, 22, 23, 24, 25, 26, 27, 28, 29, 30, 31, 17, 18] rfl
  have hD := hD.sub (ws' := la_W h c hm cm o od co cod (qa_st r0) u f9 fd) [0, 1, 2, 3, 4, 5, 6, 7, 8, 9, 10, 11, 12, 13, 14, 15, 16, 19, 20, 21, 22, 23, 24, 25, 26, 27, 28, 29, 30, 31, 17, 18] (by decide) rfl
  generalize H1 = H at hP hS ⊢
  obtain ⟨r1, rfl⟩ : ∃ y, y = r := ⟨_, rfl⟩
  obtain ⟨t1, rfl⟩ : ∃ y, y = u := ⟨_, rfl⟩
  have hP : va_P (dC, dI) vwCl (la_W h c hm cm o od co cod (qa_st r0) t1 f9 fd) H := hP
  refine lv_istore (lv' := [(7, .int r1), (6, .int kk), (0, .ref b), (1, .ref (h 0)), (2, .ref (hm 0)), (3, .ref o), (4, .ref od), (5, .int x5)]) hx hb d_A_law_445 hl (by decide) rfl (fun ls hl => ?_)
  refine lv_aload_n hx hb d_A_law_447 rfl (lv_at hl 4 rfl) ?_
  have hPc := hP.sub (ws' := (ms_W hm cm t1)) [17, 18, 19, 20, 21, 22, 23, 24, 25, 26, 27, 28, 29] rfl
  have hDc := hD.sub (ws' := (ms_W hm cm t1)) [17, 18, 19, 20, 21, 22, 23, 24, 25, 26, 27, 28, 29] (by decide) rfl
  have hKc := hK.sub (tys' := ms_T cm) [10, 11, 12, 13, 14, 15, 16, 17, 18, 19, 20, 21] rfl
  have hFc := va_free (wc := (ms_W hm cm t1)) hD hS hA [17, 18, 19, 20, 21, 22, 23, 24, 25, 26, 27, 28, 29] rfl
  refine va_calli (va_runV (own := "QuakeServerLaw") (C := "QuakeServerModel") (As := []) (rest := []) ⟨hx, hb, hml, hown, hg⟩ (c_N_thrown l dC dI hm cm H.size t1 (t1.1 20 0) t1 rfl) (cwV 0 hg (qs_gV t_686 t_687 t_688 t_8 t_689) rfl rfl rfl (by decide +kernel) ⟨Nat.le_of_ble_eq_true rfl, Nat.le_of_ble_eq_true rfl⟩) ⟨qs_blind, va_recv hKc hPc (ci := 7) (q0 := 0) rfl rfl, fun U9 hU9 hW9 => ⟨rfl, by rw [hU9], by rw [hU9]; exact hPc, va_K.moved hW9.alike hKc, hDc.weaken (fun _ _ _ _ => trivial), hNs.warm hW9⟩⟩ rfl rfl hl.1 rfl (lv_room (Nat.le_of_ble_eq_true rfl)) d_A_law_448 ⟨hc, hs⟩) hS (fun q _ h => hFc q h) hFc (fun r u T9 H1 locs ht hvm hw hB hz hk hS => ?_)
  obtain ⟨rfl, rfl⟩ := hw
  obtain ⟨hP1, hK1, hD1⟩ := hB
  rw [ht] at hP1
  obtain ⟨hP, hD⟩ := va_join (wr := qs_W h c (qa_st r0) ++ [(o, .inl (co, 1, .inr (.inl f9))), (od, .inl (cod, 1, .inr (.inr (.inr (.inl fd)))))]) (w1 := ms_W hm cm u) hP hD [17, 18, 19, 20, 21, 22, 23, 24, 25, 26, 27, 28, 29] [0, 1, 2, 3, 4, 5, 6, 7, 8, 9, 10, 11, 12, 13, 14, 15, 16, 30, 31] rfl rfl (by decide) (by decide) hk hFc hP1 hD1
  have hP := hP.sub (ws' := la_W h c hm cm o od co cod (qa_st r0) u f9 fd) [0, 1, 2, 3, 4, 5, 6, 7, 8, 9, 10, 11, 12, 13, 14, 15, 16, 19, 20, 21, 22, 23, 24, 25, 26, 27, 28, 29, 30, 31, 17, 18] rfl
  have hD := hD.sub (ws' := la_W h c hm cm o od co cod (qa_st r0) u f9 fd) [0, 1, 2, 3, 4, 5, 6, 7, 8, 9, 10, 11, 12, 13, 14, 15, 16, 19, 20, 21, 22, 23, 24, 25, 26, 27, 28, 29, 30, 31, 17, 18] (by decide) rfl
  generalize H1 = H at hP hS ⊢
  obtain ⟨t1, rfl⟩ : ∃ y, y = u := ⟨_, rfl⟩
  refine lv_iload hx hb d_A_law_451 (lv_at hl 1 rfl) ?_
  refine lv_icmp_eq (tgt := 458) hx hb d_A_law_453 (by decide) (fun e1 => ?_) (fun e1 => absurd (h3.trans ekk.symm) e1)
  refine lv_iload hx hb d_A_law_458 (lv_at hl 1 rfl) ?_
  have hend : ∀ (H : Heap) (locs : List Loc) (ls : Array Slot), va_P (dC, dI) vwCl (la_W h c hm cm o od co cod (qa_st r0) t1 f9 fd) H → va_D (fun q : Nat => s.heap.size ≤ q) (la_W h c hm cm o od co cod (qa_st r0) t1 f9 fd) → va_S (fun q : Nat => s.heap.size ≤ q) s.heap H locs → lv_has ls 9 [(0, .ref b), (1, .ref (h 0)), (2, .ref (hm 0)), (3, .ref o), (4, .ref od), (5, .int x5)] → W p l e room_1 s m #[Value.ref b] below meth cd H locs (cells + 1) (slots + 6) (lw_Z below #[Value.ref b] s) (F0 m 475 ls []) := fun H locs ls hP hD hS hl => by
    refine lv_goto (tgt := 1076) hx hb d_A_law_475 (by decide) ?_
    exact k9 _ _ H locs ls hP hD hS hl
  refine lv_if_ne (tgt := 475) hx hb d_A_law_460 (by decide) (fun e2 => ?_) (fun e2 => ?_)
  · exact hend _ _ _ hP hD hS (lv_sub hl [2, 3, 4, 5, 6, 7] rfl)
  · obtain ⟨a9, u9, e9⟩ := qa_code0 (Nat.le_of_ble_eq_true rfl) (ekk.symm.trans e2)
    refine lv_aload_n hx hb d_A_law_463 rfl (lv_at hl 5 rfl) ?_
    refine lv_iconst (v := 0) hx hb d_A_law_464 (by decide) ?_
    refine va_lald hx hb hK hP 30 22 rfl rfl qa_in0 d_A_law_465 ?_
    refine lv_iload hx hb d_A_law_466 (lv_at hl 0 rfl) ?_
    refine lv_i2l (v := r1.toInt64) hx hb d_A_law_468 rfl ?_
    refine W.lcmp hx hb d_A_law_469 ?_
    refine lv_if_eq (tgt := 475) hx hb d_A_law_470 (by decide) (fun e3 => hend _ _ _ hP hD hS (lv_sub hl [2, 3, 4, 5, 6, 7] rfl)) (fun e3 => absurd (by rw [ef9, e9, ← h4 a9 u9 e9]; exact la_cmp0 _) e3)
set_option maxHeartbeats 4000000 in
set_option maxRecDepth 100000 in
theorem la_set {p : Program} {l : Launch} {e : Env} {s : State} {m : MethodId} {below : List Frame} {meth : Method} {cd : Code} {b L : Nat} {xs : Nat → Int32} (dC : Nat → ClassId) (dI : Nat → Nat → Nat) (h : Nat → Nat) (c : Nat → ClassId) (hm : Nat → Nat) (cm : Nat → ClassId) (o od : Nat) (co cod : ClassId) (sa : Nat → Nat) (C0 : la_C l p s m meth cd b L xs sa) (g : Sg) (t : Sm) (fo : Nat → Int64) (fd : Nat → UInt64) (x5 : Int32) (hi1 : vp_in (x5 + 1) L) (hi2 : vp_in (x5 + 2) L) (hi3 : vp_in (x5 + 3) L) (hnan : ∀ x : Int32, vf_n64 (FP.dmul (FP.i2d x) (4593671619917905920 : UInt64))) (r0 : (String × Sg) ⊕ (UInt64 × Sg)) (r1 : UInt64) (t1 : Sm) (h1 : f_Q_set g (xs (x5 + 1).toNatClampNeg) (xs (x5 + 2).toNatClampNeg) (FP.dmul (FP.i2d (xs (x5 + 3).toNatClampNeg)) (4593671619917905920 : UInt64)) = some r0) (h2 : f_N_set t (xs (x5 + 1).toNatClampNeg) (xs (x5 + 2).toNatClampNeg) (FP.dmul (FP.i2d (xs (x5 + 3).toNatClampNeg)) (4593671619917905920 : UInt64)) = some (r1, t1)) (h3 : t1.1 20 0 = qa_code (["java/util/NoSuchElementException", "java/lang/IllegalArgumentException"] : List String) r0) (h4 : ∀ r u, r0 = .inr (r, u) → Op.cmpValue (FP.dcmp r r1) .l = 0) {cells slots : Nat} (hc : cells + 1 ≤ 1074) (hs : slots + 6 ≤ 9958) {H : Heap} {locs : List Loc} {ls : Array Slot} (hK : va_K (dC, dI) vwCl (la_T c cm co cod) s) (hP : va_P (dC, dI) vwCl (la_W h c hm cm o od co cod g t fo fd) H) (hD : va_D (fun q : Nat => s.heap.size ≤ q) (la_W h c hm cm o od co cod g t fo fd)) (hS : va_S (fun q : Nat => s.heap.size ≤ q) s.heap H locs) (hl : lv_has ls 9 [(0, .ref b), (1, .ref (h 0)), (2, .ref (hm 0)), (3, .ref o), (4, .ref od), (5, .int x5)]) (k9 : ∀ (fo : Nat → Int64) (fd : Nat → UInt64) (H : Heap) (locs : List Loc) (ls : Array Slot), va_P (dC, dI) vwCl (la_W h c hm cm o od co cod (qa_st r0) t1 fo fd) H → va_D (fun q : Nat => s.heap.size ≤ q) (la_W h c hm cm o od co cod (qa_st r0) t1 fo fd) → va_S (fun q : Nat => s.heap.size ≤ q) s.heap H locs → lv_has ls 9 [(0, .ref b), (1, .ref (h 0)), (2, .ref (hm 0)), (3, .ref o), (4, .ref od), (5, .int x5)] → W p l e room_1 s m #[Value.ref b] below meth cd H locs (cells + 1) (slots + 6) (lw_Z below #[Value.ref b] s) (F0 m 1076 ls [])) : W p l e room_1 s m #[Value.ref b] below meth cd H locs cells slots (lw_Z below #[Value.ref b] s) (F0 m 478 ls []) := by
  obtain ⟨⟨hx, hb, hml, hown, hg, hX, hbl⟩, hl9, hNs, hU, hN, hc1, hc2, hst⟩ := C0
  have hA : ∀ q : Nat, s.heap.size ≤ q → (fun q : Nat => s.heap.size ≤ q) q := fun _ h => h
  have hbA : ¬ (fun q : Nat => s.heap.size ≤ q) b := Nat.not_le.mpr hbl
  refine lv_aload_n hx hb d_A_law_478 rfl (lv_at hl 1 rfl) ?_
  refine lv_aload_n hx hb d_A_law_479 rfl (lv_at hl 0 rfl) ?_
  refine lv_iload hx hb d_A_law_480 (lv_at hl 5 rfl) ?_
  refine lv_iconst (v := 1) hx hb d_A_law_482 (by decide) ?_
  refine lv_iadd hx hb d_A_law_483 ?_
  refine va_sld hx hb hX hbl hbA hS hi1 d_A_law_484 ?_
  refine lv_aload_n hx hb d_A_law_485 rfl (lv_at hl 0 rfl) ?_
  refine lv_iload hx hb d_A_law_486 (lv_at hl 5 rfl) ?_
  refine lv_iconst (v := 2) hx hb d_A_law_488 (by decide) ?_
  refine lv_iadd hx hb d_A_law_489 ?_
  refine va_sld hx hb hX hbl hbA hS hi2 d_A_law_490 ?_
  refine lv_aload_n hx hb d_A_law_491 rfl (lv_at hl 0 rfl) ?_
  refine lv_iload hx hb d_A_law_492 (lv_at hl 5 rfl) ?_
  refine lv_iconst (v := 3) hx hb d_A_law_494 (by decide) ?_
  refine lv_iadd hx hb d_A_law_495 ?_
  refine va_sld hx hb hX hbl hbA hS hi3 d_A_law_496 ?_
  refine lv_i2d hx hb d_A_law_497 ?_
  refine lv_ldc2d (v := 4593671619917905920) hx hb hown (hg _ t_867) d_A_law_498 ?_
  refine lv_dmul hx hb d_A_law_501 (hnan _) ?_
  refine lv_aload hx hb d_A_law_502 (lv_at hl 4 rfl) ?_
  have hPc := hP.sub (ws' := (qd_W h c od cod (g, fd))) [0, 1, 2, 3, 4, 5, 6, 7, 8, 9, 10, 11, 12, 13, 14, 15, 16, 31] rfl
  have hDc := hD.sub (ws' := (qd_W h c od cod (g, fd))) [0, 1, 2, 3, 4, 5, 6, 7, 8, 9, 10, 11, 12, 13, 14, 15, 16, 31] (by decide) rfl
  have hKc := hK.sub (tys' := qd_T c cod) [0, 1, 2, 3, 4, 5, 6, 7, 8, 9, 23] rfl
  have hFc := va_free (wc := (qd_W h c od cod (g, fd))) hD hS hA [0, 1, 2, 3, 4, 5, 6, 7, 8, 9, 10, 11, 12, 13, 14, 15, 16, 31] rfl
  refine va_calli (vx_runSW (own := "QuakeServerLaw") (hh := [(0, 11, 14, 29), (0, 11, 18, 13)]) (As := [.ref (h 0), .int (xs (x5 + 1).toNatClampNeg), .int (xs (x5 + 2).toNatClampNeg), .double (FP.dmul (FP.i2d (xs (x5 + 3).toNatClampNeg)) (4593671619917905920 : UInt64)), .ref od]) (rest := []) ⟨hx, hb, hml, hown, hg⟩ (c_A_set l hl9 dC dI h c H.size od cod (sa 127) (sa 134) g fd (xs (x5 + 1).toNatClampNeg) (xs (x5 + 2).toNatClampNeg) (FP.dmul (FP.i2d (xs (x5 + 3).toNatClampNeg)) (4593671619917905920 : UInt64)) r0 h1) (vx_cwSW 5 hg (qs_gSW t_388 t_389 t_0 t_390) rfl rfl rfl (by decide +kernel) ⟨Nat.le_of_ble_eq_true rfl, Nat.le_of_ble_eq_true rfl⟩) ⟨fun a U g mk q => by obtain ⟨q0, q1, qP, qK, qD, qN, qU, qS, qc, qd, qs127, qs134⟩ := q; exact ⟨q0, q1, qP, va_K.moved (u := U) (U := U.calling g mk a) (Vm.Alike.refl U.vm) qK, qD, qs_N.same (s := U) (U := U.calling g mk a) rfl qN, vx_Zq.moved (u := U) (U := U.calling g mk a) (Vm.Alike.refl U.vm) qU, vx_Zq.moved (u := U) (U := U.calling g mk a) (Vm.Alike.refl U.vm) qS, va_Nc.moved (u := U) (U := U.calling g mk a) (Vm.Alike.refl U.vm) qc, va_Nc.moved (u := U) (U := U.calling g mk a) (Vm.Alike.refl U.vm) qd, vk_R.same (u := U) (U := U.calling g mk a) rfl qs127, vk_R.same (u := U) (U := U.calling g mk a) rfl qs134⟩, fun U9 hU9 hW9 => ⟨rfl, by rw [hU9], by rw [hU9]; exact hPc, va_K.moved hW9.alike hKc, hDc.weaken (fun _ _ _ _ => trivial), hNs.warm hW9, by rw [hU9]; exact vx_Zq.moved hW9.alike ((hU.kept hS.2.1).narrow hFc), by rw [hU9]; exact vx_Zq.moved hW9.alike ((hN.kept hS.2.1).narrow hFc), hc1.moved hW9.alike, hc2.moved hW9.alike, vk_R.warm hW9 (hst (127, "the entity is not there") (List.mem_of_getElem? (i := 7) rfl)), vk_R.warm hW9 (hst (134, "no such field or value") (List.mem_of_getElem? (i := 8) rfl))⟩⟩ rfl rfl hl.1 rfl (lv_room (Nat.le_of_ble_eq_true rfl)) d_A_law_504 ⟨hc, hs⟩) hS (fun q _ h => hFc q h) hFc (fun r u T9 H1 locs ht hvm hw hB hz hk hS => ?_)
  obtain ⟨rfl, rfl⟩ := hw
  obtain ⟨hP1, hK1, hD1⟩ := hB
  rw [ht] at hP1
  obtain ⟨hP, hD⟩ := va_join (wr := (ms_W hm cm t ++ [(o, .inl (co, 1, .inr (.inl fo)))])) (w1 := (qd_W h c od cod (qa_st r0, (qa_outd r0 fd)))) hP hD [0, 1, 2, 3, 4, 5, 6, 7, 8, 9, 10, 11, 12, 13, 14, 15, 16, 31] [17, 18, 19, 20, 21, 22, 23, 24, 25, 26, 27, 28, 29, 30] rfl rfl (by decide) (by decide) hk hFc hP1 hD1
  have hP := hP.sub (ws' := la_W h c hm cm o od co cod (qa_st r0) t fo (qa_outd r0 fd)) [14, 15, 16, 17, 18, 19, 20, 21, 22, 23, 24, 25, 26, 27, 28, 29, 30, 0, 1, 2, 3, 4, 5, 6, 7, 8, 9, 10, 11, 12, 13, 31] rfl
  have hD := hD.sub (ws' := la_W h c hm cm o od co cod (qa_st r0) t fo (qa_outd r0 fd)) [14, 15, 16, 17, 18, 19, 20, 21, 22, 23, 24, 25, 26, 27, 28, 29, 30, 0, 1, 2, 3, 4, 5, 6, 7, 8, 9, 10, 11, 12, 13, 31] (by decide) rfl
  generalize H1 = H at hP hS ⊢
  obtain ⟨kk, ekk⟩ : ∃ y : Int32, y = qa_code (["java/util/NoSuchElementException", "java/lang/IllegalArgumentException"] : List String) r0 := ⟨_, rfl⟩
  rw [← ekk]
  obtain ⟨f9, ef9⟩ : ∃ y, y = (qa_outd r0 fd) := ⟨_, rfl⟩
  rw [← ef9] at hP hD
  refine lv_istore (lv' := [(6, .int kk), (0, .ref b), (1, .ref (h 0)), (2, .ref (hm 0)), (3, .ref o), (4, .ref od), (5, .int x5)]) hx hb d_A_law_507 hl (by decide) rfl (fun ls hl => ?_)
  refine lv_aload_n hx hb d_A_law_509 rfl (lv_at hl 3 rfl) ?_
  refine lv_aload_n hx hb d_A_law_510 rfl (lv_at hl 1 rfl) ?_
  refine lv_iload hx hb d_A_law_511 (lv_at hl 6 rfl) ?_
  refine lv_iconst (v := 1) hx hb d_A_law_513 (by decide) ?_
  refine lv_iadd hx hb d_A_law_514 ?_
  refine va_sld hx hb hX hbl hbA hS hi1 d_A_law_515 ?_
  refine lv_aload_n hx hb d_A_law_516 rfl (lv_at hl 1 rfl) ?_
  refine lv_iload hx hb d_A_law_517 (lv_at hl 6 rfl) ?_
  refine lv_iconst (v := 2) hx hb d_A_law_519 (by decide) ?_
  refine lv_iadd hx hb d_A_law_520 ?_
  refine va_sld hx hb hX hbl hbA hS hi2 d_A_law_521 ?_
  refine lv_aload_n hx hb d_A_law_522 rfl (lv_at hl 1 rfl) ?_
  refine lv_iload hx hb d_A_law_523 (lv_at hl 6 rfl) ?_
  refine lv_iconst (v := 3) hx hb d_A_law_525 (by decide) ?_
  refine lv_iadd hx hb d_A_law_526 ?_
  refine va_sld hx hb hX hbl hbA hS hi3 d_A_law_527 ?_
  refine lv_i2d hx hb d_A_law_528 ?_
  refine lv_ldc2d (v := 4593671619917905920) hx hb hown (hg _ t_867) d_A_law_529 ?_
  refine lv_dmul hx hb d_A_law_532 (hnan _) ?_
  have hPc := hP.sub (ws' := (ms_W hm cm t)) [17, 18, 19, 20, 21, 22, 23, 24, 25, 26, 27, 28, 29] rfl
  have hDc := hD.sub (ws' := (ms_W hm cm t)) [17, 18, 19, 20, 21, 22, 23, 24, 25, 26, 27, 28, 29] (by decide) rfl
  have hKc := hK.sub (tys' := ms_T cm) [10, 11, 12, 13, 14, 15, 16, 17, 18, 19, 20, 21] rfl
  have hFc := va_free (wc := (ms_W hm cm t)) hD hS hA [17, 18, 19, 20, 21, 22, 23, 24, 25, 26, 27, 28, 29] rfl
  refine va_calld (va_runV (own := "QuakeServerLaw") (C := "QuakeServerModel") (As := [.int (xs (x5 + 1).toNatClampNeg), .int (xs (x5 + 2).toNatClampNeg), .double (FP.dmul (FP.i2d (xs (x5 + 3).toNatClampNeg)) (4593671619917905920 : UInt64))]) (rest := []) ⟨hx, hb, hml, hown, hg⟩ (c_N_set l dC dI hm cm H.size t (xs (x5 + 1).toNatClampNeg) (xs (x5 + 2).toNatClampNeg) (FP.dmul (FP.i2d (xs (x5 + 3).toNatClampNeg)) (4593671619917905920 : UInt64)) r1 t1 h2) (cwV 3 hg (qs_gV t_734 t_735 t_736 t_8 t_737) rfl rfl rfl (by decide +kernel) ⟨Nat.le_of_ble_eq_true rfl, Nat.le_of_ble_eq_true rfl⟩) ⟨qs_blind, va_recv hKc hPc (ci := 7) (q0 := 0) rfl rfl, fun U9 hU9 hW9 => ⟨rfl, by rw [hU9], by rw [hU9]; exact hPc, va_K.moved hW9.alike hKc, hDc.weaken (fun _ _ _ _ => trivial), hNs.warm hW9⟩⟩ rfl rfl hl.1 rfl (lv_room (Nat.le_of_ble_eq_true rfl)) d_A_law_533 ⟨hc, hs⟩) hS (fun q _ h => hFc q h) hFc (fun r u T9 H1 locs ht hvm hw hB hz hk hS => ?_)
  obtain ⟨rfl, rfl⟩ := hw
  obtain ⟨hP1, hK1, hD1⟩ := hB
  rw [ht] at hP1
  obtain ⟨hP, hD⟩ := va_join (wr := qs_W h c (qa_st r0) ++ [(o, .inl (co, 1, .inr (.inl fo))), (od, .inl (cod, 1, .inr (.inr (.inr (.inl f9)))))]) (w1 := ms_W hm cm u) hP hD [17, 18, 19, 20, 21, 22, 23, 24, 25, 26, 27, 28, 29] [0, 1, 2, 3, 4, 5, 6, 7, 8, 9, 10, 11, 12, 13, 14, 15, 16, 30, 31] rfl rfl (by decide) (by decide) hk hFc hP1 hD1
  have hP := hP.sub (ws' := la_W h c hm cm o od co cod (qa_st r0) u fo f9) [0, 1, 2, 3, 4, 5, 6, 7, 8, 9, 10, 11, 12, 13, 14, 15, 16, 19, 20, 21, 22, 23, 24, 25, 26, 27, 28, 29, 30, 31, 17, 18] rfl
  have hD := hD.sub (ws' := la_W h c hm cm o od co cod (qa_st r0) u fo f9) [0, 1, 2, 3, 4, 5, 6, 7, 8, 9, 10, 11, 12, 13, 14, 15, 16, 19, 20, 21, 22, 23, 24, 25, 26, 27, 28, 29, 30, 31, 17, 18] (by decide) rfl
  generalize H1 = H at hP hS ⊢
  obtain ⟨r1, rfl⟩ : ∃ y, y = r := ⟨_, rfl⟩
  obtain ⟨t1, rfl⟩ : ∃ y, y = u := ⟨_, rfl⟩
  have hP : va_P (dC, dI) vwCl (la_W h c hm cm o od co cod (qa_st r0) t1 fo f9) H := hP
  refine lv_dstore (lv' := [(7, .double r1), (6, .int kk), (0, .ref b), (1, .ref (h 0)), (2, .ref (hm 0)), (3, .ref o), (4, .ref od), (5, .int x5)]) hx hb d_A_law_536 hl (by decide) rfl (fun ls hl => ?_)
  refine lv_aload_n hx hb d_A_law_538 rfl (lv_at hl 4 rfl) ?_
  have hPc := hP.sub (ws' := (ms_W hm cm t1)) [17, 18, 19, 20, 21, 22, 23, 24, 25, 26, 27, 28, 29] rfl
  have hDc := hD.sub (ws' := (ms_W hm cm t1)) [17, 18, 19, 20, 21, 22, 23, 24, 25, 26, 27, 28, 29] (by decide) rfl
  have hKc := hK.sub (tys' := ms_T cm) [10, 11, 12, 13, 14, 15, 16, 17, 18, 19, 20, 21] rfl
  have hFc := va_free (wc := (ms_W hm cm t1)) hD hS hA [17, 18, 19, 20, 21, 22, 23, 24, 25, 26, 27, 28, 29] rfl
  refine va_calli (va_runV (own := "QuakeServerLaw") (C := "QuakeServerModel") (As := []) (rest := []) ⟨hx, hb, hml, hown, hg⟩ (c_N_thrown l dC dI hm cm H.size t1 (t1.1 20 0) t1 rfl) (cwV 0 hg (qs_gV t_686 t_687 t_688 t_8 t_689) rfl rfl rfl (by decide +kernel) ⟨Nat.le_of_ble_eq_true rfl, Nat.le_of_ble_eq_true rfl⟩) ⟨qs_blind, va_recv hKc hPc (ci := 7) (q0 := 0) rfl rfl, fun U9 hU9 hW9 => ⟨rfl, by rw [hU9], by rw [hU9]; exact hPc, va_K.moved hW9.alike hKc, hDc.weaken (fun _ _ _ _ => trivial), hNs.warm hW9⟩⟩ rfl rfl hl.1 rfl (lv_room (Nat.le_of_ble_eq_true rfl)) d_A_law_539 ⟨hc, hs⟩) hS (fun q _ h => hFc q h) hFc (fun r u T9 H1 locs ht hvm hw hB hz hk hS => ?_)
  obtain ⟨rfl, rfl⟩ := hw
  obtain ⟨hP1, hK1, hD1⟩ := hB
  rw [ht] at hP1
  obtain ⟨hP, hD⟩ := va_join (wr := qs_W h c (qa_st r0) ++ [(o, .inl (co, 1, .inr (.inl fo))), (od, .inl (cod, 1, .inr (.inr (.inr (.inl f9)))))]) (w1 := ms_W hm cm u) hP hD [17, 18, 19, 20, 21, 22, 23, 24, 25, 26, 27, 28, 29] [0, 1, 2, 3, 4, 5, 6, 7, 8, 9, 10, 11, 12, 13, 14, 15, 16, 30, 31] rfl rfl (by decide) (by decide) hk hFc hP1 hD1
  have hP := hP.sub (ws' := la_W h c hm cm o od co cod (qa_st r0) u fo f9) [0, 1, 2, 3, 4, 5, 6, 7, 8, 9, 10, 11, 12, 13, 14, 15, 16, 19, 20, 21, 22, 23, 24, 25, 26, 27, 28, 29, 30, 31, 17, 18] rfl
  have hD := hD.sub (ws' := la_W h c hm cm o od co cod (qa_st r0) u fo f9) [0, 1, 2, 3, 4, 5, 6, 7, 8, 9, 10, 11, 12, 13, 14, 15, 16, 19, 20, 21, 22, 23, 24, 25, 26, 27, 28, 29, 30, 31, 17, 18] (by decide) rfl
  generalize H1 = H at hP hS ⊢
  obtain ⟨t1, rfl⟩ : ∃ y, y = u := ⟨_, rfl⟩
  refine lv_iload hx hb d_A_law_542 (lv_at hl 1 rfl) ?_
  refine lv_icmp_eq (tgt := 549) hx hb d_A_law_544 (by decide) (fun e1 => ?_) (fun e1 => absurd (h3.trans ekk.symm) e1)
  refine lv_iload hx hb d_A_law_549 (lv_at hl 1 rfl) ?_
  have hend : ∀ (H : Heap) (locs : List Loc) (ls : Array Slot), va_P (dC, dI) vwCl (la_W h c hm cm o od co cod (qa_st r0) t1 fo f9) H → va_D (fun q : Nat => s.heap.size ≤ q) (la_W h c hm cm o od co cod (qa_st r0) t1 fo f9) → va_S (fun q : Nat => s.heap.size ≤ q) s.heap H locs → lv_has ls 9 [(0, .ref b), (1, .ref (h 0)), (2, .ref (hm 0)), (3, .ref o), (4, .ref od), (5, .int x5)] → W p l e room_1 s m #[Value.ref b] below meth cd H locs (cells + 1) (slots + 6) (lw_Z below #[Value.ref b] s) (F0 m 586 ls []) := fun H locs ls hP hD hS hl => by
    refine lv_goto (tgt := 1076) hx hb d_A_law_586 (by decide) ?_
    exact k9 _ _ H locs ls hP hD hS hl
  refine lv_if_ne (tgt := 586) hx hb d_A_law_551 (by decide) (fun e2 => ?_) (fun e2 => ?_)
  · exact hend _ _ _ hP hD hS (lv_sub hl [2, 3, 4, 5, 6, 7] rfl)
  · obtain ⟨a9, u9, e9⟩ := qa_code0 (Nat.le_of_ble_eq_true rfl) (ekk.symm.trans e2)
    refine lv_aload hx hb d_A_law_554 (lv_at hl 6 rfl) ?_
    refine lv_iconst (v := 0) hx hb d_A_law_556 (by decide) ?_
    refine va_dald hx hb hK hP 31 23 rfl rfl qa_in0 d_A_law_557 ?_
    refine lv_dload hx hb d_A_law_558 (lv_at hl 0 rfl) ?_
    refine lv_dcmp hx hb d_A_law_560 ?_
    refine lv_if_eq (tgt := 586) hx hb d_A_law_561 (by decide) (fun e3 => hend _ _ _ hP hD hS (lv_sub hl [2, 3, 4, 5, 6, 7] rfl)) (fun e3 => absurd (by rw [ef9, e9]; exact h4 a9 u9 e9) e3)
set_option maxHeartbeats 4000000 in
set_option maxRecDepth 100000 in
theorem la_get {p : Program} {l : Launch} {e : Env} {s : State} {m : MethodId} {below : List Frame} {meth : Method} {cd : Code} {b L : Nat} {xs : Nat → Int32} (dC : Nat → ClassId) (dI : Nat → Nat → Nat) (h : Nat → Nat) (c : Nat → ClassId) (hm : Nat → Nat) (cm : Nat → ClassId) (o od : Nat) (co cod : ClassId) (sa : Nat → Nat) (C0 : la_C l p s m meth cd b L xs sa) (g : Sg) (t : Sm) (fo : Nat → Int64) (fd : Nat → UInt64) (x5 : Int32) (hi1 : vp_in (x5 + 1) L) (hi2 : vp_in (x5 + 2) L) (r0 : (String × Sg) ⊕ (UInt64 × Sg)) (r1 : UInt64) (t1 : Sm) (h1 : f_Q_get g (xs (x5 + 1).toNatClampNeg) (xs (x5 + 2).toNatClampNeg) = some r0) (h2 : f_N_get t (xs (x5 + 1).toNatClampNeg) (xs (x5 + 2).toNatClampNeg) = some (r1, t1)) (h3 : t1.1 20 0 = qa_code (["java/util/NoSuchElementException", "java/lang/IllegalArgumentException"] : List String) r0) (h4 : ∀ r u, r0 = .inr (r, u) → Op.cmpValue (FP.dcmp r r1) .l = 0) {cells slots : Nat} (hc : cells + 1 ≤ 1074) (hs : slots + 6 ≤ 9958) {H : Heap} {locs : List Loc} {ls : Array Slot} (hK : va_K (dC, dI) vwCl (la_T c cm co cod) s) (hP : va_P (dC, dI) vwCl (la_W h c hm cm o od co cod g t fo fd) H) (hD : va_D (fun q : Nat => s.heap.size ≤ q) (la_W h c hm cm o od co cod g t fo fd)) (hS : va_S (fun q : Nat => s.heap.size ≤ q) s.heap H locs) (hl : lv_has ls 9 [(0, .ref b), (1, .ref (h 0)), (2, .ref (hm 0)), (3, .ref o), (4, .ref od), (5, .int x5)]) (k9 : ∀ (fo : Nat → Int64) (fd : Nat → UInt64) (H : Heap) (locs : List Loc) (ls : Array Slot), va_P (dC, dI) vwCl (la_W h c hm cm o od co cod (qa_st r0) t1 fo fd) H → va_D (fun q : Nat => s.heap.size ≤ q) (la_W h c hm cm o od co cod (qa_st r0) t1 fo fd) → va_S (fun q : Nat => s.heap.size ≤ q) s.heap H locs → lv_has ls 9 [(0, .ref b), (1, .ref (h 0)), (2, .ref (hm 0)), (3, .ref o), (4, .ref od), (5, .int x5)] → W p l e room_1 s m #[Value.ref b] below meth cd H locs (cells + 1) (slots + 6) (lw_Z below #[Value.ref b] s) (F0 m 1076 ls [])) : W p l e room_1 s m #[Value.ref b] below meth cd H locs cells slots (lw_Z below #[Value.ref b] s) (F0 m 589 ls []) := by
  obtain ⟨⟨hx, hb, hml, hown, hg, hX, hbl⟩, hl9, hNs, hU, hN, hc1, hc2, hst⟩ := C0
  have hA : ∀ q : Nat, s.heap.size ≤ q → (fun q : Nat => s.heap.size ≤ q) q := fun _ h => h
  have hbA : ¬ (fun q : Nat => s.heap.size ≤ q) b := Nat.not_le.mpr hbl
  refine lv_aload_n hx hb d_A_law_589 rfl (lv_at hl 1 rfl) ?_
  refine lv_aload_n hx hb d_A_law_590 rfl (lv_at hl 0 rfl) ?_
  refine lv_iload hx hb d_A_law_591 (lv_at hl 5 rfl) ?_
  refine lv_iconst (v := 1) hx hb d_A_law_593 (by decide) ?_
  refine lv_iadd hx hb d_A_law_594 ?_
  refine va_sld hx hb hX hbl hbA hS hi1 d_A_law_595 ?_
  refine lv_aload_n hx hb d_A_law_596 rfl (lv_at hl 0 rfl) ?_
  refine lv_iload hx hb d_A_law_597 (lv_at hl 5 rfl) ?_
  refine lv_iconst (v := 2) hx hb d_A_law_599 (by decide) ?_
  refine lv_iadd hx hb d_A_law_600 ?_
  refine va_sld hx hb hX hbl hbA hS hi2 d_A_law_601 ?_
  refine lv_aload hx hb d_A_law_602 (lv_at hl 4 rfl) ?_
  have hPc := hP.sub (ws' := (qd_W h c od cod (g, fd))) [0, 1, 2, 3, 4, 5, 6, 7, 8, 9, 10, 11, 12, 13, 14, 15, 16, 31] rfl
  have hDc := hD.sub (ws' := (qd_W h c od cod (g, fd))) [0, 1, 2, 3, 4, 5, 6, 7, 8, 9, 10, 11, 12, 13, 14, 15, 16, 31] (by decide) rfl
  have hKc := hK.sub (tys' := qd_T c cod) [0, 1, 2, 3, 4, 5, 6, 7, 8, 9, 23] rfl
  have hFc := va_free (wc := (qd_W h c od cod (g, fd))) hD hS hA [0, 1, 2, 3, 4, 5, 6, 7, 8, 9, 10, 11, 12, 13, 14, 15, 16, 31] rfl
  refine va_calli (vx_runSW (own := "QuakeServerLaw") (hh := [(0, 9, 12, 29), (0, 9, 16, 13)]) (As := [.ref (h 0), .int (xs (x5 + 1).toNatClampNeg), .int (xs (x5 + 2).toNatClampNeg), .ref od]) (rest := []) ⟨hx, hb, hml, hown, hg⟩ (c_A_get l hl9 dC dI h c H.size od cod (sa 127) (sa 144) g fd (xs (x5 + 1).toNatClampNeg) (xs (x5 + 2).toNatClampNeg) r0 h1) (vx_cwSW 4 hg (qs_gSW t_400 t_401 t_0 t_402) rfl rfl rfl (by decide +kernel) ⟨Nat.le_of_ble_eq_true rfl, Nat.le_of_ble_eq_true rfl⟩) ⟨fun a U g mk q => by obtain ⟨q0, q1, qP, qK, qD, qN, qU, qS, qc, qd, qs127, qs144⟩ := q; exact ⟨q0, q1, qP, va_K.moved (u := U) (U := U.calling g mk a) (Vm.Alike.refl U.vm) qK, qD, qs_N.same (s := U) (U := U.calling g mk a) rfl qN, vx_Zq.moved (u := U) (U := U.calling g mk a) (Vm.Alike.refl U.vm) qU, vx_Zq.moved (u := U) (U := U.calling g mk a) (Vm.Alike.refl U.vm) qS, va_Nc.moved (u := U) (U := U.calling g mk a) (Vm.Alike.refl U.vm) qc, va_Nc.moved (u := U) (U := U.calling g mk a) (Vm.Alike.refl U.vm) qd, vk_R.same (u := U) (U := U.calling g mk a) rfl qs127, vk_R.same (u := U) (U := U.calling g mk a) rfl qs144⟩, fun U9 hU9 hW9 => ⟨rfl, by rw [hU9], by rw [hU9]; exact hPc, va_K.moved hW9.alike hKc, hDc.weaken (fun _ _ _ _ => trivial), hNs.warm hW9, by rw [hU9]; exact vx_Zq.moved hW9.alike ((hU.kept hS.2.1).narrow hFc), by rw [hU9]; exact vx_Zq.moved hW9.alike ((hN.kept hS.2.1).narrow hFc), hc1.moved hW9.alike, hc2.moved hW9.alike, vk_R.warm hW9 (hst (127, "the entity is not there") (List.mem_of_getElem? (i := 7) rfl)), vk_R.warm hW9 (hst (144, "no such field") (List.mem_of_getElem? (i := 9) rfl))⟩⟩ rfl rfl hl.1 rfl (lv_room (Nat.le_of_ble_eq_true rfl)) d_A_law_604 ⟨hc, hs⟩) hS (fun q _ h => hFc q h) hFc (fun r u T9 H1 locs ht hvm hw hB hz hk hS => ?_)
  obtain ⟨rfl, rfl⟩ := hw
  obtain ⟨hP1, hK1, hD1⟩ := hB
  rw [ht] at hP1
  obtain ⟨hP, hD⟩ := va_join (wr := (ms_W hm cm t ++ [(o, .inl (co, 1, .inr (.inl fo)))])) (w1 := (qd_W h c od cod (qa_st r0, (qa_outd r0 fd)))) hP hD [0, 1, 2, 3, 4, 5, 6, 7, 8, 9, 10, 11, 12, 13, 14, 15, 16, 31] [17, 18, 19, 20, 21, 22, 23, 24, 25, 26, 27, 28, 29, 30] rfl rfl (by decide) (by decide) hk hFc hP1 hD1
  have hP := hP.sub (ws' := la_W h c hm cm o od co cod (qa_st r0) t fo (qa_outd r0 fd)) [14, 15, 16, 17, 18, 19, 20, 21, 22, 23, 24, 25, 26, 27, 28, 29, 30, 0, 1, 2, 3, 4, 5, 6, 7, 8, 9, 10, 11, 12, 13, 31] rfl
  have hD := hD.sub (ws' := la_W h c hm cm o od co cod (qa_st r0) t fo (qa_outd r0 fd)) [14, 15, 16, 17, 18, 19, 20, 21, 22, 23, 24, 25, 26, 27, 28, 29, 30, 0, 1, 2, 3, 4, 5, 6, 7, 8, 9, 10, 11, 12, 13, 31] (by decide) rfl
  generalize H1 = H at hP hS ⊢
  obtain ⟨kk, ekk⟩ : ∃ y : Int32, y = qa_code (["java/util/NoSuchElementException", "java/lang/IllegalArgumentException"] : List String) r0 := ⟨_, rfl⟩
  rw [← ekk]
  obtain ⟨f9, ef9⟩ : ∃ y, y = (qa_outd r0 fd) := ⟨_, rfl⟩
  rw [← ef9] at hP hD
  refine lv_istore (lv' := [(6, .int kk), (0, .ref b), (1, .ref (h 0)), (2, .ref (hm 0)), (3, .ref o), (4, .ref od), (5, .int x5)]) hx hb d_A_law_607 hl (by decide) rfl (fun ls hl => ?_)
  refine lv_aload_n hx hb d_A_law_609 rfl (lv_at hl 3 rfl) ?_
  refine lv_aload_n hx hb d_A_law_610 rfl (lv_at hl 1 rfl) ?_
  refine lv_iload hx hb d_A_law_611 (lv_at hl 6 rfl) ?_
  refine lv_iconst (v := 1) hx hb d_A_law_613 (by decide) ?_
  refine lv_iadd hx hb d_A_law_614 ?_
  refine va_sld hx hb hX hbl hbA hS hi1 d_A_law_615 ?_
  refine lv_aload_n hx hb d_A_law_616 rfl (lv_at hl 1 rfl) ?_
  refine lv_iload hx hb d_A_law_617 (lv_at hl 6 rfl) ?_
  refine lv_iconst (v := 2) hx hb d_A_law_619 (by decide) ?_
  refine lv_iadd hx hb d_A_law_620 ?_
  refine va_sld hx hb hX hbl hbA hS hi2 d_A_law_621 ?_
  have hPc := hP.sub (ws' := (ms_W hm cm t)) [17, 18, 19, 20, 21, 22, 23, 24, 25, 26, 27, 28, 29] rfl
  have hDc := hD.sub (ws' := (ms_W hm cm t)) [17, 18, 19, 20, 21, 22, 23, 24, 25, 26, 27, 28, 29] (by decide) rfl
  have hKc := hK.sub (tys' := ms_T cm) [10, 11, 12, 13, 14, 15, 16, 17, 18, 19, 20, 21] rfl
  have hFc := va_free (wc := (ms_W hm cm t)) hD hS hA [17, 18, 19, 20, 21, 22, 23, 24, 25, 26, 27, 28, 29] rfl
  refine va_calld (va_runV (own := "QuakeServerLaw") (C := "QuakeServerModel") (As := [.int (xs (x5 + 1).toNatClampNeg), .int (xs (x5 + 2).toNatClampNeg)]) (rest := []) ⟨hx, hb, hml, hown, hg⟩ (c_N_get l dC dI hm cm H.size t (xs (x5 + 1).toNatClampNeg) (xs (x5 + 2).toNatClampNeg) r1 t1 h2) (cwV 2 hg (qs_gV t_739 t_740 t_741 t_8 t_742) rfl rfl rfl (by decide +kernel) ⟨Nat.le_of_ble_eq_true rfl, Nat.le_of_ble_eq_true rfl⟩) ⟨qs_blind, va_recv hKc hPc (ci := 7) (q0 := 0) rfl rfl, fun U9 hU9 hW9 => ⟨rfl, by rw [hU9], by rw [hU9]; exact hPc, va_K.moved hW9.alike hKc, hDc.weaken (fun _ _ _ _ => trivial), hNs.warm hW9⟩⟩ rfl rfl hl.1 rfl (lv_room (Nat.le_of_ble_eq_true rfl)) d_A_law_622 ⟨hc, hs⟩) hS (fun q _ h => hFc q h) hFc (fun r u T9 H1 locs ht hvm hw hB hz hk hS => ?_)
  obtain ⟨rfl, rfl⟩ := hw
  obtain ⟨hP1, hK1, hD1⟩ := hB
  rw [ht] at hP1
  obtain ⟨hP, hD⟩ := va_join (wr := qs_W h c (qa_st r0) ++ [(o, .inl (co, 1, .inr (.inl fo))), (od, .inl (cod, 1, .inr (.inr (.inr (.inl f9)))))]) (w1 := ms_W hm cm u) hP hD [17, 18, 19, 20, 21, 22, 23, 24, 25, 26, 27, 28, 29] [0, 1, 2, 3, 4, 5, 6, 7, 8, 9, 10, 11, 12, 13, 14, 15, 16, 30, 31] rfl rfl (by decide) (by decide) hk hFc hP1 hD1
  have hP := hP.sub (ws' := la_W h c hm cm o od co cod (qa_st r0) u fo f9) [0, 1, 2, 3, 4, 5, 6, 7, 8, 9, 10, 11, 12, 13, 14, 15, 16, 19, 20, 21, 22, 23, 24, 25, 26, 27, 28, 29, 30, 31, 17, 18] rfl
  have hD := hD.sub (ws' := la_W h c hm cm o od co cod (qa_st r0) u fo f9) [0, 1, 2, 3, 4, 5, 6, 7, 8, 9, 10, 11, 12, 13, 14, 15, 16, 19, 20, 21, 22, 23, 24, 25, 26, 27, 28, 29, 30, 31, 17, 18] (by decide) rfl
  generalize H1 = H at hP hS ⊢
  obtain ⟨r1, rfl⟩ : ∃ y, y = r := ⟨_, rfl⟩
  obtain ⟨t1, rfl⟩ : ∃ y, y = u := ⟨_, rfl⟩
  have hP : va_P (dC, dI) vwCl (la_W h c hm cm o od co cod (qa_st r0) t1 fo f9) H := hP
  refine lv_dstore (lv' := [(7, .double r1), (6, .int kk), (0, .ref b), (1, .ref (h 0)), (2, .ref (hm 0)), (3, .ref o), (4, .ref od), (5, .int x5)]) hx hb d_A_law_625 hl (by decide) rfl (fun ls hl => ?_)
  refine lv_aload_n hx hb d_A_law_627 rfl (lv_at hl 4 rfl) ?_
  have hPc := hP.sub (ws' := (ms_W hm cm t1)) [17, 18, 19, 20, 21, 22, 23, 24, 25, 26, 27, 28, 29] rfl
  have hDc := hD.sub (ws' := (ms_W hm cm t1)) [17, 18, 19, 20, 21, 22, 23, 24, 25, 26, 27, 28, 29] (by decide) rfl
  have hKc := hK.sub (tys' := ms_T cm) [10, 11, 12, 13, 14, 15, 16, 17, 18, 19, 20, 21] rfl
  have hFc := va_free (wc := (ms_W hm cm t1)) hD hS hA [17, 18, 19, 20, 21, 22, 23, 24, 25, 26, 27, 28, 29] rfl
  refine va_calli (va_runV (own := "QuakeServerLaw") (C := "QuakeServerModel") (As := []) (rest := []) ⟨hx, hb, hml, hown, hg⟩ (c_N_thrown l dC dI hm cm H.size t1 (t1.1 20 0) t1 rfl) (cwV 0 hg (qs_gV t_686 t_687 t_688 t_8 t_689) rfl rfl rfl (by decide +kernel) ⟨Nat.le_of_ble_eq_true rfl, Nat.le_of_ble_eq_true rfl⟩) ⟨qs_blind, va_recv hKc hPc (ci := 7) (q0 := 0) rfl rfl, fun U9 hU9 hW9 => ⟨rfl, by rw [hU9], by rw [hU9]; exact hPc, va_K.moved hW9.alike hKc, hDc.weaken (fun _ _ _ _ => trivial), hNs.warm hW9⟩⟩ rfl rfl hl.1 rfl (lv_room (Nat.le_of_ble_eq_true rfl)) d_A_law_628 ⟨hc, hs⟩) hS (fun q _ h => hFc q h) hFc (fun r u T9 H1 locs ht hvm hw hB hz hk hS => ?_)
  obtain ⟨rfl, rfl⟩ := hw
  obtain ⟨hP1, hK1, hD1⟩ := hB
  rw [ht] at hP1
  obtain ⟨hP, hD⟩ := va_join (wr := qs_W h c (qa_st r0) ++ [(o, .inl (co, 1, .inr (.inl fo))), (od, .inl (cod, 1, .inr (.inr (.inr (.inl f9)))))]) (w1 := ms_W hm cm u) hP hD [17, 18, 19, 20, 21, 22, 23, 24, 25, 26, 27, 28, 29] [0, 1, 2, 3, 4, 5, 6, 7, 8, 9, 10, 11, 12, 13, 14, 15, 16, 30, 31] rfl rfl (by decide) (by decide) hk hFc hP1 hD1
  have hP := hP.sub (ws' := la_W h c hm cm o od co cod (qa_st r0) u fo f9) [0, 1, 2, 3, 4, 5, 6, 7, 8, 9, 10, 11, 12, 13, 14, 15, 16, 19, 20, 21, 22, 23, 24, 25, 26, 27, 28, 29, 30, 31, 17, 18] rfl
  have hD := hD.sub (ws' := la_W h c hm cm o od co cod (qa_st r0) u fo f9) [0, 1, 2, 3, 4, 5, 6, 7, 8, 9, 10, 11, 12, 13, 14, 15, 16, 19, 20, 21, 22, 23, 24, 25, 26, 27, 28, 29, 30, 31, 17, 18] (by decide) rfl
  generalize H1 = H at hP hS ⊢
  obtain ⟨t1, rfl⟩ : ∃ y, y = u := ⟨_, rfl⟩
  refine lv_iload hx hb d_A_law_631 (lv_at hl 1 rfl) ?_
  refine lv_icmp_eq (tgt := 638) hx hb d_A_law_633 (by decide) (fun e1 => ?_) (fun e1 => absurd (h3.trans ekk.symm) e1)
  refine lv_iload hx hb d_A_law_638 (lv_at hl 1 rfl) ?_
  have hend : ∀ (H : Heap) (locs : List Loc) (ls : Array Slot), va_P (dC, dI) vwCl (la_W h c hm cm o od co cod (qa_st r0) t1 fo f9) H → va_D (fun q : Nat => s.heap.size ≤ q) (la_W h c hm cm o od co cod (qa_st r0) t1 fo f9) → va_S (fun q : Nat => s.heap.size ≤ q) s.heap H locs → lv_has ls 9 [(0, .ref b), (1, .ref (h 0)), (2, .ref (hm 0)), (3, .ref o), (4, .ref od), (5, .int x5)] → W p l e room_1 s m #[Value.ref b] below meth cd H locs (cells + 1) (slots + 6) (lw_Z below #[Value.ref b] s) (F0 m 675 ls []) := fun H locs ls hP hD hS hl => by
    refine lv_goto (tgt := 1076) hx hb d_A_law_675 (by decide) ?_
    exact k9 _ _ H locs ls hP hD hS hl
  refine lv_if_ne (tgt := 675) hx hb d_A_law_640 (by decide) (fun e2 => ?_) (fun e2 => ?_)
  · exact hend _ _ _ hP hD hS (lv_sub hl [2, 3, 4, 5, 6, 7] rfl)
  · obtain ⟨a9, u9, e9⟩ := qa_code0 (Nat.le_of_ble_eq_true rfl) (ekk.symm.trans e2)
    refine lv_aload hx hb d_A_law_643 (lv_at hl 6 rfl) ?_
    refine lv_iconst (v := 0) hx hb d_A_law_645 (by decide) ?_
    refine va_dald hx hb hK hP 31 23 rfl rfl qa_in0 d_A_law_646 ?_
    refine lv_dload hx hb d_A_law_647 (lv_at hl 0 rfl) ?_
    refine lv_dcmp hx hb d_A_law_649 ?_
    refine lv_if_eq (tgt := 675) hx hb d_A_law_650 (by decide) (fun e3 => hend _ _ _ hP hD hS (lv_sub hl [2, 3, 4, 5, 6, 7] rfl)) (fun e3 => absurd (by rw [ef9, e9]; exact h4 a9 u9 e9) e3)
