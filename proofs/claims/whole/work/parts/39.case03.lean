set_option maxHeartbeats 4000000 in
set_option maxRecDepth 100000 in
theorem la_tick {p : Program} {l : Launch} {e : Env} {s : State} {m : MethodId} {below : List Frame} {meth : Method} {cd : Code} {b L : Nat} {xs : Nat → Int32} (dC : Nat → ClassId) (dI : Nat → Nat → Nat) (h : Nat → Nat) (c : Nat → ClassId) (hm : Nat → Nat) (cm : Nat → ClassId) (o od : Nat) (co cod : ClassId) (sa : Nat → Nat) (C0 : la_C l p s m meth cd b L xs sa) (g : Sg) (t : Sm) (fo : Nat → Int64) (fd : Nat → UInt64) (x5 : Int32) (hi1 : vp_in (x5 + 1) L) (r0 : (String × Sg) ⊕ (Int32 × Sg)) (r1 : Int32) (t1 : Sm) (h1 : f_Q_tick g (xs (x5 + 1).toNatClampNeg) = some r0) (h2 : f_N_tick t (xs (x5 + 1).toNatClampNeg) = some (r1, t1)) (h3 : t1.1 20 0 = qa_code (["java/lang/IllegalArgumentException"] : List String) r0) (h4 : ∀ r u, r0 = .inr (r, u) → r = r1) {cells slots : Nat} (hc : cells + 1 ≤ 1074) (hs : slots + 6 ≤ 9958) {H : Heap} {locs : List Loc} {ls : Array Slot} (hK : va_K (dC, dI) vwCl (la_T c cm co cod) s) (hP : va_P (dC, dI) vwCl (la_W h c hm cm o od co cod g t fo fd) H) (hD : va_D (fun q : Nat => s.heap.size ≤ q) (la_W h c hm cm o od co cod g t fo fd)) (hS : va_S (fun q : Nat => s.heap.size ≤ q) s.heap H locs) (hl : lv_has ls 9 [(0, .ref b), (1, .ref (h 0)), (2, .ref (hm 0)), (3, .ref o), (4, .ref od), (5, .int x5)]) (k9 : ∀ (fo : Nat → Int64) (fd : Nat → UInt64) (H : Heap) (locs : List Loc) (ls : Array Slot), va_P (dC, dI) vwCl (la_W h c hm cm o od co cod (qa_st r0) t1 fo fd) H → va_D (fun q : Nat => s.heap.size ≤ q) (la_W h c hm cm o od co cod (qa_st r0) t1 fo fd) → va_S (fun q : Nat => s.heap.size ≤ q) s.heap H locs → lv_has ls 9 [(0, .ref b), (1, .ref (h 0)), (2, .ref (hm 0)), (3, .ref o), (4, .ref od), (5, .int x5)] → W p l e room_1 s m #[Value.ref b] below meth cd H locs (cells + 1) (slots + 6) (lw_Z below #[Value.ref b] s) (F0 m 1076 ls [])) : W p l e room_1 s m #[Value.ref b] below meth cd H locs cells slots (lw_Z below #[Value.ref b] s) (F0 m 882 ls []) := by
  obtain ⟨⟨hx, hb, hml, hown, hg, hX, hbl⟩, hl9, hNs, hU, hN, hc1, hc2, hst⟩ := C0
  have hA : ∀ q : Nat, s.heap.size ≤ q → (fun q : Nat => s.heap.size ≤ q) q := fun _ h => h
  have hbA : ¬ (fun q : Nat => s.heap.size ≤ q) b := Nat.not_le.mpr hbl
  refine lv_aload_n hx hb d_A_law_882 rfl (lv_at hl 1 rfl) ?_
  refine lv_aload_n hx hb d_A_law_883 rfl (lv_at hl 0 rfl) ?_
  refine lv_iload hx hb d_A_law_884 (lv_at hl 5 rfl) ?_
  refine lv_iconst (v := 1) hx hb d_A_law_886 (by decide) ?_
  refine lv_iadd hx hb d_A_law_887 ?_
  refine va_sld hx hb hX hbl hbA hS hi1 d_A_law_888 ?_
  refine lv_aload_n hx hb d_A_law_889 rfl (lv_at hl 3 rfl) ?_
  have hPc := hP.sub (ws' := (qa_W h c o co (g, fo))) [0, 1, 2, 3, 4, 5, 6, 7, 8, 9, 10, 11, 12, 13, 14, 15, 16, 30] rfl
  have hDc := hD.sub (ws' := (qa_W h c o co (g, fo))) [0, 1, 2, 3, 4, 5, 6, 7, 8, 9, 10, 11, 12, 13, 14, 15, 16, 30] (by decide) rfl
  have hKc := hK.sub (tys' := qa_T c co) [0, 1, 2, 3, 4, 5, 6, 7, 8, 9, 22] rfl
  have hFc := va_free (wc := (qa_W h c o co (g, fo))) hD hS hA [0, 1, 2, 3, 4, 5, 6, 7, 8, 9, 10, 11, 12, 13, 14, 15, 16, 30] rfl
  refine va_calli (vx_runSW (own := "QuakeServerLaw") (hh := [(0, 9, 12, 13)]) (As := [.ref (h 0), .int (xs (x5 + 1).toNatClampNeg), .ref o]) (rest := []) ⟨hx, hb, hml, hown, hg⟩ (c_A_tick l hl9 dC dI h c H.size o co (sa 165) g fo (xs (x5 + 1).toNatClampNeg) r0 h1) (vx_cwSW 3 hg (qs_gSW t_492 t_493 t_0 t_494) rfl rfl rfl (by decide +kernel) ⟨Nat.le_of_ble_eq_true rfl, Nat.le_of_ble_eq_true rfl⟩) ⟨fun a U g mk q => by obtain ⟨q0, q1, qP, qK, qD, qN, qU, qS, qc, qd, qs165⟩ := q; exact ⟨q0, q1, qP, va_K.moved (u := U) (U := U.calling g mk a) (Vm.Alike.refl U.vm) qK, qD, qs_N.same (s := U) (U := U.calling g mk a) rfl qN, vx_Zq.moved (u := U) (U := U.calling g mk a) (Vm.Alike.refl U.vm) qU, vx_Zq.moved (u := U) (U := U.calling g mk a) (Vm.Alike.refl U.vm) qS, va_Nc.moved (u := U) (U := U.calling g mk a) (Vm.Alike.refl U.vm) qc, va_Nc.moved (u := U) (U := U.calling g mk a) (Vm.Alike.refl U.vm) qd, vk_R.same (u := U) (U := U.calling g mk a) rfl qs165⟩, fun U9 hU9 hW9 => ⟨rfl, by rw [hU9], by rw [hU9]; exact hPc, va_K.moved hW9.alike hKc, hDc.weaken (fun _ _ _ _ => trivial), hNs.warm hW9, by rw [hU9]; exact vx_Zq.moved hW9.alike ((hU.kept hS.2.1).narrow hFc), by rw [hU9]; exact vx_Zq.moved hW9.alike ((hN.kept hS.2.1).narrow hFc), hc1.moved hW9.alike, hc2.moved hW9.alike, vk_R.warm hW9 (hst (165, "not 1 .. 4 ticks") (List.mem_of_getElem? (i := 13) rfl))⟩⟩ rfl rfl hl.1 rfl (lv_room (Nat.le_of_ble_eq_true rfl)) d_A_law_890 ⟨hc, hs⟩) hS (fun q _ h => hFc q h) hFc (fun r u T9 H1 locs ht hvm hw hB hz hk hS => ?_)
  obtain ⟨rfl, rfl⟩ := hw
  obtain ⟨hP1, hK1, hD1⟩ := hB
  rw [ht] at hP1
  obtain ⟨hP, hD⟩ := va_join (wr := (ms_W hm cm t ++ [(od, .inl (cod, 1, .inr (.inr (.inr (.inl fd)))))])) (w1 := (qa_W h c o co (qa_st r0, (qa_out r0 fo)))) hP hD [0, 1, 2, 3, 4, 5, 6, 7, 8, 9, 10, 11, 12, 13, 14, 15, 16, 30] [17, 18, 19, 20, 21, 22, 23, 24, 25, 26, 27, 28, 29, 31] rfl rfl (by decide) (by decide) hk hFc hP1 hD1
  have hP := hP.sub (ws' := la_W h c hm cm o od co cod (qa_st r0) t (qa_out r0 fo) fd) [14, 15, 16, 17, 18, 19, 20, 21, 22, 23, 24, 25, 26, 27, 28, 29, 30, 0, 1, 2, 3, 4, 5, 6, 7, 8, 9, 10, 11, 12, 31, 13] rfl
  have hD := hD.sub (ws' := la_W h c hm cm o od co cod (qa_st r0) t (qa_out r0 fo) fd) [14, 15, 16, 17, 18, 19, 20, 21, 22, 23, 24, 25, 26, 27, 28, 29, 30, 0, 1, 2, 3, 4, 5, 6, 7, 8, 9, 10, 11, 12, 31, 13] (by decide) rfl
  generalize H1 = H at hP hS ⊢
  obtain ⟨kk, ekk⟩ : ∃ y : Int32, y = qa_code (["java/lang/IllegalArgumentException"] : List String) r0 := ⟨_, rfl⟩
  rw [← ekk]
  obtain ⟨f9, ef9⟩ : ∃ y, y = (qa_out r0 fo) := ⟨_, rfl⟩
  rw [← ef9] at hP hD
  refine lv_istore (lv' := [(6, .int kk), (0, .ref b), (1, .ref (h 0)), (2, .ref (hm 0)), (3, .ref o), (4, .ref od), (5, .int x5)]) hx hb d_A_law_893 hl (by decide) rfl (fun ls hl => ?_)
  refine lv_aload_n hx hb d_A_law_895 rfl (lv_at hl 3 rfl) ?_
  refine lv_aload_n hx hb d_A_law_896 rfl (lv_at hl 1 rfl) ?_
  refine lv_iload hx hb d_A_law_897 (lv_at hl 6 rfl) ?_
  refine lv_iconst (v := 1) hx hb d_A_law_899 (by decide) ?_
  refine lv_iadd hx hb d_A_law_900 ?_
  refine va_sld hx hb hX hbl hbA hS hi1 d_A_law_901 ?_
  have hPc := hP.sub (ws' := (ms_W hm cm t)) [17, 18, 19, 20, 21, 22, 23, 24, 25, 26, 27, 28, 29] rfl
  have hDc := hD.sub (ws' := (ms_W hm cm t)) [17, 18, 19, 20, 21, 22, 23, 24, 25, 26, 27, 28, 29] (by decide) rfl
  have hKc := hK.sub (tys' := ms_T cm) [10, 11, 12, 13, 14, 15, 16, 17, 18, 19, 20, 21] rfl
  have hFc := va_free (wc := (ms_W hm cm t)) hD hS hA [17, 18, 19, 20, 21, 22, 23, 24, 25, 26, 27, 28, 29] rfl
  refine va_calli (va_runV (own := "QuakeServerLaw") (C := "QuakeServerModel") (As := [.int (xs (x5 + 1).toNatClampNeg)]) (rest := []) ⟨hx, hb, hml, hown, hg⟩ (c_N_tick l dC dI hm cm H.size t (xs (x5 + 1).toNatClampNeg) r1 t1 h2) (cwV 1 hg (qs_gV t_799 t_800 t_801 t_8 t_802) rfl rfl rfl (by decide +kernel) ⟨Nat.le_of_ble_eq_true rfl, Nat.le_of_ble_eq_true rfl⟩) ⟨qs_blind, va_recv hKc hPc (ci := 7) (q0 := 0) rfl rfl, fun U9 hU9 hW9 => ⟨rfl, by rw [hU9], by rw [hU9]; exact hPc, va_K.moved hW9.alike hKc, hDc.weaken (fun _ _ _ _ => trivial), hNs.warm hW9⟩⟩ rfl rfl hl.1 rfl (lv_room (Nat.le_of_ble_eq_true rfl)) d_A_law_902 ⟨hc, hs⟩) hS (fun q _ h => hFc q h) hFc (fun r u T9 H1 locs ht hvm hw hB hz hk hS => ?_)
  obtain ⟨rfl, rfl⟩ := hw
  obtain ⟨hP1, hK1, hD1⟩ := hB
  rw [ht] at hP1
  obtain ⟨hP, hD⟩ := va_join (wr := qs_W h c (qa_st r0) ++ [(o, .inl (co, 1, .inr (.inl f9))), (od, .inl (cod, 1, .inr (.inr (.inr (.inl fd)))))]) (w1 := ms_W hm cm u) hP hD [17, 18, 19, 20, 21, 22, 23, 24, 25, 26, 27, 28, 29] [0, 1, 2, 3, 4, 5, 6, 7, 8, 9, 10, 11, 12, 13, 14, 15, 16, 30, 31] rfl rfl (by decide) (by decide) hk hFc hP1 hD1
  have hP := hP.sub (ws' := la_W h c hm cm o od co cod (qa_st r0) u f9 fd) [0, 1, 2, 3, 4, 5, 6, 7, 8, 9, 10, 11, 12, 13, 14, 15, 16, 19, 20, 21, 22, 23, 24, 25, 26, 27, 28, 29, 30, 31, 17, 18] rfl
  have hD := hD.sub (ws' := la_W h c hm cm o od co cod (qa_st r0) u f9 fd) [0, 1, 2, 3, 4, 5, 6, 7, 8, 9, 10, 11, 12, 13, 14, 15, 16, 19, 20, 21, 22, 23, 24, 25, 26, 27, 28, 29, 30, 31, 17, 18] (by decide) rfl
  generalize H1 = H at hP hS ⊢
  obtain ⟨r1, rfl⟩ : ∃ y, y = r := ⟨_, rfl⟩
  obtain ⟨t1, rfl⟩ : ∃ y, y = u := ⟨_, rfl⟩
  have hP : va_P (dC, dI) vwCl (la_W h c hm cm o od co cod (qa_st r0) t1 f9 fd) H := hP
  refine lv_istore (lv' := [(7, .int r1), (6, .int kk), (0, .ref b), (1, .ref (h 0)), (2, .ref (hm 0)), (3, .ref o), (4, .ref od), (5, .int x5)]) hx hb d_A_law_905 hl (by decide) rfl (fun ls hl => ?_)
  refine lv_aload_n hx hb d_A_law_907 rfl (lv_at hl 4 rfl) ?_
  have hPc := hP.sub (ws' := (ms_W hm cm t1)) [17, 18, 19, 20, 21, 22, 23, 24, 25, 26, 27, 28, 29] rfl
  have hDc := hD.sub (ws' := (ms_W hm cm t1)) [17, 18, 19, 20, 21, 22, 23, 24, 25, 26, 27, 28, 29] (by decide) rfl
  have hKc := hK.sub (tys' := ms_T cm) [10, 11, 12, 13, 14, 15, 16, 17, 18, 19, 20, 21] rfl
  have hFc := va_free (wc := (ms_W hm cm t1)) hD hS hA [17, 18, 19, 20, 21, 22, 23, 24, 25, 26, 27, 28, 29] rfl
  refine va_calli (va_runV (own := "QuakeServerLaw") (C := "QuakeServerModel") (As := []) (rest := []) ⟨hx, hb, hml, hown, hg⟩ (c_N_thrown l dC dI hm cm H.size t1 (t1.1 20 0) t1 rfl) (cwV 0 hg (qs_gV t_686 t_687 t_688 t_8 t_689) rfl rfl rfl (by decide +kernel) ⟨Nat.le_of_ble_eq_true rfl, Nat.le_of_ble_eq_true rfl⟩) ⟨qs_blind, va_recv hKc hPc (ci := 7) (q0 := 0) rfl rfl, fun U9 hU9 hW9 => ⟨rfl, by rw [hU9], by rw [hU9]; exact hPc, va_K.moved hW9.alike hKc, hDc.weaken (fun _ _ _ _ => trivial), hNs.warm hW9⟩⟩ rfl rfl hl.1 rfl (lv_room (Nat.le_of_ble_eq_true rfl)) d_A_law_908 ⟨hc, hs⟩) hS (fun q _ h => hFc q h) hFc (fun r u T9 H1 locs ht hvm hw hB hz hk hS => ?_)
  obtain ⟨rfl, rfl⟩ := hw
  obtain ⟨hP1, hK1, hD1⟩ := hB
  rw [ht] at hP1
  obtain ⟨hP, hD⟩ := va_join (wr := qs_W h c (qa_st r0) ++ [(o, .inl (co, 1, .inr (.inl f9))), (od, .inl (cod, 1, .inr (.inr (.inr (.inl fd)))))]) (w1 := ms_W hm cm u) hP hD [17, 18, 19, 20, 21, 22, 23, 24, 25, 26, 27, 28, 29] [0, 1, 2, 3, 4, 5, 6, 7, 8, 9, 10, 11, 12, 13, 14, 15, 16, 30, 31] rfl rfl (by decide) (by decide) hk hFc hP1 hD1
  have hP := hP.sub (ws' := la_W h c hm cm o od co cod (qa_st r0) u f9 fd) [0, 1, 2, 3, 4, 5, 6, 7, 8, 9, 10, 11, 12, 13, 14, 15, 16, 19, 20, 21, 22, 23, 24, 25, 26, 27, 28, 29, 30, 31, 17, 18] rfl
  have hD := hD.sub (ws' := la_W h c hm cm o od co cod (qa_st r0) u f9 fd) [0, 1, 2, 3, 4, 5, 6, 7, 8, 9, 10, 11, 12, 13, 14, 15, 16, 19, 20, 21, 22, 23, 24, 25, 26, 27, 28, 29, 30, 31, 17, 18] (by decide) rfl
  generalize H1 = H at hP hS ⊢
  obtain ⟨t1, rfl⟩ : ∃ y, y = u := ⟨_, rfl⟩
  refine lv_iload hx hb d_A_law_911 (lv_at hl 1 rfl) ?_
  refine lv_icmp_eq (tgt := 918) hx hb d_A_law_913 (by decide) (fun e1 => ?_) (fun e1 => absurd (h3.trans ekk.symm) e1)
  refine lv_iload hx hb d_A_law_918 (lv_at hl 1 rfl) ?_
  have hend : ∀ (H : Heap) (locs : List Loc) (ls : Array Slot), va_P (dC, dI) vwCl (la_W h c hm cm o od co cod (qa_st r0) t1 f9 fd) H → va_D (fun q : Nat => s.heap.size ≤ q) (la_W h c hm cm o od co cod (qa_st r0) t1 f9 fd) → va_S (fun q : Nat => s.heap.size ≤ q) s.heap H locs → lv_has ls 9 [(0, .ref b), (1, .ref (h 0)), (2, .ref (hm 0)), (3, .ref o), (4, .ref od), (5, .int x5)] → W p l e room_1 s m #[Value.ref b] below meth cd H locs (cells + 1) (slots + 6) (lw_Z below #[Value.ref b] s) (F0 m 935 ls []) := fun H locs ls hP hD hS hl => by
    refine lv_goto (tgt := 1076) hx hb d_A_law_935 (by decide) ?_
    exact k9 _ _ H locs ls hP hD hS hl
  refine lv_if_ne (tgt := 935) hx hb d_A_law_920 (by decide) (fun e2 => ?_) (fun e2 => ?_)
  · exact hend _ _ _ hP hD hS (lv_sub hl [2, 3, 4, 5, 6, 7] rfl)
  · obtain ⟨a9, u9, e9⟩ := qa_code0 (Nat.le_of_ble_eq_true rfl) (ekk.symm.trans e2)
    refine lv_aload_n hx hb d_A_law_923 rfl (lv_at hl 5 rfl) ?_
    refine lv_iconst (v := 0) hx hb d_A_law_924 (by decide) ?_
    refine va_lald hx hb hK hP 30 22 rfl rfl qa_in0 d_A_law_925 ?_
    refine lv_iload hx hb d_A_law_926 (lv_at hl 0 rfl) ?_
    refine lv_i2l (v := r1.toInt64) hx hb d_A_law_928 rfl ?_
    refine W.lcmp hx hb d_A_law_929 ?_
    refine lv_if_eq (tgt := 935) hx hb d_A_law_930 (by decide) (fun e3 => hend _ _ _ hP hD hS (lv_sub hl [2, 3, 4, 5, 6, 7] rfl)) (fun e3 => absurd (by rw [ef9, e9, ← h4 a9 u9 e9]; exact la_cmp0 _) e3)
set_option maxHeartbeats 4000000 in
set_option maxRecDepth 100000 in
theorem la_change {p : Program} {l : Launch} {e : Env} {s : State} {m : MethodId} {below : List Frame} {meth : Method} {cd : Code} {b L : Nat} {xs : Nat → Int32} (dC : Nat → ClassId) (dI : Nat → Nat → Nat) (h : Nat → Nat) (c : Nat → ClassId) (hm : Nat → Nat) (cm : Nat → ClassId) (o od : Nat) (co cod : ClassId) (sa : Nat → Nat) (C0 : la_C l p s m meth cd b L xs sa) (g : Sg) (t : Sm) (fo : Nat → Int64) (fd : Nat → UInt64) (x5 : Int32) (hi1 : vp_in (x5 + 1) L) (r0 : (String × Sg) ⊕ (Int32 × Sg)) (r1 : Int32) (t1 : Sm) (h1 : f_Q_change g (xs (x5 + 1).toNatClampNeg) = some r0) (h2 : f_N_change t (xs (x5 + 1).toNatClampNeg) = some (r1, t1)) (h3 : t1.1 20 0 = qa_code (["java/util/NoSuchElementException"] : List String) r0) (h4 : ∀ r u, r0 = .inr (r, u) → r = r1) {cells slots : Nat} (hc : cells + 1 ≤ 1074) (hs : slots + 6 ≤ 9958) {H : Heap} {locs : List Loc} {ls : Array Slot} (hK : va_K (dC, dI) vwCl (la_T c cm co cod) s) (hP : va_P (dC, dI) vwCl (la_W h c hm cm o od co cod g t fo fd) H) (hD : va_D (fun q : Nat => s.heap.size ≤ q) (la_W h c hm cm o od co cod g t fo fd)) (hS : va_S (fun q : Nat => s.heap.size ≤ q) s.heap H locs) (hl : lv_has ls 9 [(0, .ref b), (1, .ref (h 0)), (2, .ref (hm 0)), (3, .ref o), (4, .ref od), (5, .int x5)]) (k9 : ∀ (fo : Nat → Int64) (fd : Nat → UInt64) (H : Heap) (locs : List Loc) (ls : Array Slot), va_P (dC, dI) vwCl (la_W h c hm cm o od co cod (qa_st r0) t1 fo fd) H → va_D (fun q : Nat => s.heap.size ≤ q) (la_W h c hm cm o od co cod (qa_st r0) t1 fo fd) → va_S (fun q : Nat => s.heap.size ≤ q) s.heap H locs → lv_has ls 9 [(0, .ref b), (1, .ref (h 0)), (2, .ref (hm 0)), (3, .ref o), (4, .ref od), (5, .int x5)] → W p l e room_1 s m #[Value.ref b] below meth cd H locs (cells + 1) (slots + 6) (lw_Z below #[Value.ref b] s) (F0 m 1076 ls [])) : W p l e room_1 s m #[Value.ref b] below meth cd H locs cells slots (lw_Z below #[Value.ref b] s) (F0 m 951 ls []) := by
  obtain ⟨⟨hx, hb, hml, hown, hg, hX, hbl⟩, hl9, hNs, hU, hN, hc1, hc2, hst⟩ := C0
  have hA : ∀ q : Nat, s.heap.size ≤ q → (fun q : Nat => s.heap.size ≤ q) q := fun _ h => h
  have hbA : ¬ (fun q : Nat => s.heap.size ≤ q) b := Nat.not_le.mpr hbl
  refine lv_aload_n hx hb d_A_law_951 rfl (lv_at hl 1 rfl) ?_
  refine lv_aload_n hx hb d_A_law_952 rfl (lv_at hl 0 rfl) ?_
  refine lv_iload hx hb d_A_law_953 (lv_at hl 5 rfl) ?_
  refine lv_iconst (v := 1) hx hb d_A_law_955 (by decide) ?_
  refine lv_iadd hx hb d_A_law_956 ?_
  refine va_sld hx hb hX hbl hbA hS hi1 d_A_law_957 ?_
  refine lv_aload_n hx hb d_A_law_958 rfl (lv_at hl 3 rfl) ?_
  have hPc := hP.sub (ws' := (qa_W h c o co (g, fo))) [0, 1, 2, 3, 4, 5, 6, 7, 8, 9, 10, 11, 12, 13, 14, 15, 16, 30] rfl
  have hDc := hD.sub (ws' := (qa_W h c o co (g, fo))) [0, 1, 2, 3, 4, 5, 6, 7, 8, 9, 10, 11, 12, 13, 14, 15, 16, 30] (by decide) rfl
  have hKc := hK.sub (tys' := qa_T c co) [0, 1, 2, 3, 4, 5, 6, 7, 8, 9, 22] rfl
  have hFc := va_free (wc := (qa_W h c o co (g, fo))) hD hS hA [0, 1, 2, 3, 4, 5, 6, 7, 8, 9, 10, 11, 12, 13, 14, 15, 16, 30] rfl
  refine va_calli (vx_runSW (own := "QuakeServerLaw") (hh := [(0, 9, 12, 29)]) (As := [.ref (h 0), .int (xs (x5 + 1).toNatClampNeg), .ref o]) (rest := []) ⟨hx, hb, hml, hown, hg⟩ (c_A_change l hl9 dC dI h c H.size o co (sa 181) g fo (xs (x5 + 1).toNatClampNeg) r0 h1) (vx_cwSW 3 hg (qs_gSW t_592 t_593 t_0 t_594) rfl rfl rfl (by decide +kernel) ⟨Nat.le_of_ble_eq_true rfl, Nat.le_of_ble_eq_true rfl⟩) ⟨fun a U g mk q => by obtain ⟨q0, q1, qP, qK, qD, qN, qU, qS, qc, qd, qs181⟩ := q; exact ⟨q0, q1, qP, va_K.moved (u := U) (U := U.calling g mk a) (Vm.Alike.refl U.vm) qK, qD, qs_N.same (s := U) (U := U.calling g mk a) rfl qN, vx_Zq.moved (u := U) (U := U.calling g mk a) (Vm.Alike.refl U.vm) qU, vx_Zq.moved (u := U) (U := U.calling g mk a) (Vm.Alike.refl U.vm) qS, va_Nc.moved (u := U) (U := U.calling g mk a) (Vm.Alike.refl U.vm) qc, va_Nc.moved (u := U) (U := U.calling g mk a) (Vm.Alike.refl U.vm) qd, vk_R.same (u := U) (U := U.calling g mk a) rfl qs181⟩, fun U9 hU9 hW9 => ⟨rfl, by rw [hU9], by rw [hU9]; exact hPc, va_K.moved hW9.alike hKc, hDc.weaken (fun _ _ _ _ => trivial), hNs.warm hW9, by rw [hU9]; exact vx_Zq.moved hW9.alike ((hU.kept hS.2.1).narrow hFc), by rw [hU9]; exact vx_Zq.moved hW9.alike ((hN.kept hS.2.1).narrow hFc), hc1.moved hW9.alike, hc2.moved hW9.alike, vk_R.warm hW9 (hst (181, "there is no such change") (List.mem_of_getElem? (i := 14) rfl))⟩⟩ rfl rfl hl.1 rfl (lv_room (Nat.le_of_ble_eq_true rfl)) d_A_law_959 ⟨hc, hs⟩) hS (fun q _ h => hFc q h) hFc (fun r u T9 H1 locs ht hvm hw hB hz hk hS => ?_)
  obtain ⟨rfl, rfl⟩ := hw
  obtain ⟨hP1, hK1, hD1⟩ := hB
  rw [ht] at hP1
  obtain ⟨hP, hD⟩ := va_join (wr := (ms_W hm cm t ++ [(od, .inl (cod, 1, .inr (.inr (.inr (.inl fd)))))])) (w1 := (qa_W h c o co (qa_st r0, (qa_out r0 fo)))) hP hD [0, 1, 2, 3, 4, 5, 6, 7, 8, 9, 10, 11, 12, 13, 14, 15, 16, 30] [17, 18, 19, 20, 21, 22, 23, 24, 25, 26, 27, 28, 29, 31] rfl rfl (by decide) (by decide) hk hFc hP1 hD1
  have hP := hP.sub (ws' := la_W h c hm cm o od co cod (qa_st r0) t (qa_out r0 fo) fd) [14, 15, 16, 17, 18, 19, 20, 21, 22, 23, 24, 25, 26, 27, 28, 29, 30, 0, 1, 2, 3, 4, 5, 6, 7, 8, 9, 10, 11, 12, 31, 13] rfl
  have hD := hD.sub (ws' := la_W h c hm cm o od co cod (qa_st r0) t (qa_out r0 fo) fd) [14, 15, 16, 17, 18, 19, 20, 21, 22, 23, 24, 25, 26, 27, 28, 29, 30, 0, 1, 2, 3, 4, 5, 6, 7, 8, 9, 10, 11, 12, 31, 13] (by decide) rfl
  generalize H1 = H at hP hS ⊢
  obtain ⟨kk, ekk⟩ : ∃ y : Int32, y = qa_code (["java/util/NoSuchElementException"] : List String) r0 := ⟨_, rfl⟩
  rw [← ekk]
  obtain ⟨f9, ef9⟩ : ∃ y, y = (qa_out r0 fo) := ⟨_, rfl⟩
  rw [← ef9] at hP hD
  refine lv_istore (lv' := [(6, .int kk), (0, .ref b), (1, .ref (h 0)), (2, .ref (hm 0)), (3, .ref o), (4, .ref od), (5, .int x5)]) hx hb d_A_law_962 hl (by decide) rfl (fun ls hl => ?_)
  refine lv_aload_n hx hb d_A_law_964 rfl (lv_at hl 3 rfl) ?_
  refine lv_aload_n hx hb d_A_law_965 rfl (lv_at hl 1 rfl) ?_
  refine lv_iload hx hb d_A_law_966 (lv_at hl 6 rfl) ?_
  refine lv_iconst (v := 1) hx hb d_A_law_968 (by decide) ?_
  refine lv_iadd hx hb d_A_law_969 ?_
  refine va_sld hx hb hX hbl hbA hS hi1 d_A_law_970 ?_
  have hPc := hP.sub (ws' := (ms_W hm cm t)) [17, 18, 19, 20, 21, 22, 23, 24, 25, 26, 27, 28, 29] rfl
  have hDc := hD.sub (ws' := (ms_W hm cm t)) [17, 18, 19, 20, 21, 22, 23, 24, 25, 26, 27, 28, 29] (by decide) rfl
  have hKc := hK.sub (tys' := ms_T cm) [10, 11, 12, 13, 14, 15, 16, 17, 18, 19, 20, 21] rfl
  have hFc := va_free (wc := (ms_W hm cm t)) hD hS hA [17, 18, 19, 20, 21, 22, 23, 24, 25, 26, 27, 28, 29] rfl
  refine va_calli (va_runV (own := "QuakeServerLaw") (C := "QuakeServerModel") (As := [.int (xs (x5 + 1).toNatClampNeg)]) (rest := []) ⟨hx, hb, hml, hown, hg⟩ (c_N_change l dC dI hm cm H.size t (xs (x5 + 1).toNatClampNeg) r1 t1 h2) (cwV 1 hg (qs_gV t_854 t_855 t_856 t_8 t_857) rfl rfl rfl (by decide +kernel) ⟨Nat.le_of_ble_eq_true rfl, Nat.le_of_ble_eq_true rfl⟩) ⟨qs_blind, va_recv hKc hPc (ci := 7) (q0 := 0) rfl rfl, fun U9 hU9 hW9 => ⟨rfl, by rw [hU9], by rw [hU9]; exact hPc, va_K.moved hW9.alike hKc, hDc.weaken (fun _ _ _ _ => trivial), hNs.warm hW9⟩⟩ rfl rfl hl.1 rfl (lv_room (Nat.le_of_ble_eq_true rfl)) d_A_law_971 ⟨hc, hs⟩) hS (fun q _ h => hFc q h) hFc (fun r u T9 H1 locs ht hvm hw hB hz hk hS => ?_)
  obtain ⟨rfl, rfl⟩ := hw
  obtain ⟨hP1, hK1, hD1⟩ := hB
  rw [ht] at hP1
  obtain ⟨hP, hD⟩ := va_join (wr := qs_W h c (qa_st r0) ++ [(o, .inl (co, 1, .inr (.inl f9))), (od, .inl (cod, 1, .inr (.inr (.inr (.inl fd)))))]) (w1 := ms_W hm cm u) hP hD [17, 18, 19, 20, 21, 22, 23, 24, 25, 26, 27, 28, 29] [0, 1, 2, 3, 4, 5, 6, 7, 8, 9, 10, 11, 12, 13, 14, 15, 16, 30, 31] rfl rfl (by decide) (by decide) hk hFc hP1 hD1
  have hP := hP.sub (ws' := la_W h c hm cm o od co cod (qa_st r0) u f9 fd) [0, 1, 2, 3, 4, 5, 6, 7, 8, 9, 10, 11, 12, 13, 14, 15, 16, 19, 20, 21, 22, 23, 24, 25, 26, 27, 28, 29, 30, 31, 17, 18] rfl
  have hD := hD.sub (ws' := la_W h c hm cm o od co cod (qa_st r0) u f9 fd) [0, 1, 2, 3, 4, 5, 6, 7, 8, 9, 10, 11, 12, 13, 14, 15, 16, 19, 20, 21, 22, 23, 24, 25, 26, 27, 28, 29, 30, 31, 17, 18] (by decide) rfl
  generalize H1 = H at hP hS ⊢
  obtain ⟨r1, rfl⟩ : ∃ y, y = r := ⟨_, rfl⟩
  obtain ⟨t1, rfl⟩ : ∃ y, y = u := ⟨_, rfl⟩
  have hP : va_P (dC, dI) vwCl (la_W h c hm cm o od co cod (qa_st r0) t1 f9 fd) H := hP
  refine lv_istore (lv' := [(7, .int r1), (6, .int kk), (0, .ref b), (1, .ref (h 0)), (2, .ref (hm 0)), (3, .ref o), (4, .ref od), (5, .int x5)]) hx hb d_A_law_974 hl (by decide) rfl (fun ls hl => ?_)
  refine lv_aload_n hx hb d_A_law_976 rfl (lv_at hl 4 rfl) ?_
  have hPc := hP.sub (ws' := (ms_W hm cm t1)) [17, 18, 19, 20, 21, 22, 23, 24, 25, 26, 27, 28, 29] rfl
  have hDc := hD.sub (ws' := (ms_W hm cm t1)) [17, 18, 19, 20, 21, 22, 23, 24, 25, 26, 27, 28, 29] (by decide) rfl
  have hKc := hK.sub (tys' := ms_T cm) [10, 11, 12, 13, 14, 15, 16, 17, 18, 19, 20, 21] rfl
  have hFc := va_free (wc := (ms_W hm cm t1)) hD hS hA [17, 18, 19, 20, 21, 22, 23, 24, 25, 26, 27, 28, 29] rfl
  refine va_calli (va_runV (own := "QuakeServerLaw") (C := "QuakeServerModel") (As := []) (rest := []) ⟨hx, hb, hml, hown, hg⟩ (c_N_thrown l dC dI hm cm H.size t1 (t1.1 20 0) t1 rfl) (cwV 0 hg (qs_gV t_686 t_687 t_688 t_8 t_689) rfl rfl rfl (by decide +kernel) ⟨Nat.le_of_ble_eq_true rfl, Nat.le_of_ble_eq_true rfl⟩) ⟨qs_blind, va_recv hKc hPc (ci := 7) (q0 := 0) rfl rfl, fun U9 hU9 hW9 => ⟨rfl, by rw [hU9], by rw [hU9]; exact hPc, va_K.moved hW9.alike hKc, hDc.weaken (fun _ _ _ _ => trivial), hNs.warm hW9⟩⟩ rfl rfl hl.1 rfl (lv_room (Nat.le_of_ble_eq_true rfl)) d_A_law_977 ⟨hc, hs⟩) hS (fun q _ h => hFc q h) hFc (fun r u T9 H1 locs ht hvm hw hB hz hk hS => ?_)
  obtain ⟨rfl, rfl⟩ := hw
  obtain ⟨hP1, hK1, hD1⟩ := hB
  rw [ht] at hP1
  obtain ⟨hP, hD⟩ := va_join (wr := qs_W h c (qa_st r0) ++ [(o, .inl (co, 1, .inr (.inl f9))), (od, .inl (cod, 1, .inr (.inr (.inr (.inl fd)))))]) (w1 := ms_W hm cm u) hP hD [17, 18, 19, 20, 21, 22, 23, 24, 25, 26, 27, 28, 29] [0, 1, 2, 3, 4, 5, 6, 7, 8, 9, 10, 11, 12, 13, 14, 15, 16, 30, 31] rfl rfl (by decide) (by decide) hk hFc hP1 hD1
  have hP := hP.sub (ws' := la_W h c hm cm o od co cod (qa_st r0) u f9 fd) [0, 1, 2, 3, 4, 5, 6, 7, 8, 9, 10, 11, 12, 13, 14, 15, 16, 19, 20, 21, 22, 23, 24, 25, 26, 27, 28, 29, 30, 31, 17, 18] rfl
  have hD := hD.sub (ws' := la_W h c hm cm o od co cod (qa_st r0) u f9 fd) [0, 1, 2, 3, 4, 5, 6, 7, 8, 9, 10, 11, 12, 13, 14, 15, 16, 19, 20, 21, 22, 23, 24, 25, 26, 27, 28, 29, 30, 31, 17, 18] (by decide) rfl
  generalize H1 = H at hP hS ⊢
  obtain ⟨t1, rfl⟩ : ∃ y, y = u := ⟨_, rfl⟩
  refine lv_iload hx hb d_A_law_980 (lv_at hl 1 rfl) ?_
  refine lv_icmp_eq (tgt := 987) hx hb d_A_law_982 (by decide) (fun e1 => ?_) (fun e1 => absurd (h3.trans ekk.symm) e1)
  refine lv_iload hx hb d_A_law_987 (lv_at hl 1 rfl) ?_
  have hend : ∀ (H : Heap) (locs : List Loc) (ls : Array Slot), va_P (dC, dI) vwCl (la_W h c hm cm o od co cod (qa_st r0) t1 f9 fd) H → va_D (fun q : Nat => s.heap.size ≤ q) (la_W h c hm cm o od co cod (qa_st r0) t1 f9 fd) → va_S (fun q : Nat => s.heap.size ≤ q) s.heap H locs → lv_has ls 9 [(0, .ref b), (1, .ref (h 0)), (2, .ref (hm 0)), (3, .ref o), (4, .ref od), (5, .int x5)] → W p l e room_1 s m #[Value.ref b] below meth cd H locs (cells + 1) (slots + 6) (lw_Z below #[Value.ref b] s) (F0 m 1004 ls []) := fun H locs ls hP hD hS hl => by
    refine lv_goto (tgt := 1076) hx hb d_A_law_1004 (by decide) ?_
    exact k9 _ _ H locs ls hP hD hS hl
  refine lv_if_ne (tgt := 1004) hx hb d_A_law_989 (by decide) (fun e2 => ?_) (fun e2 => ?_)
  · exact hend _ _ _ hP hD hS (lv_sub hl [2, 3, 4, 5, 6, 7] rfl)
  · obtain ⟨a9, u9, e9⟩ := qa_code0 (Nat.le_of_ble_eq_true rfl) (ekk.symm.trans e2)
    refine lv_aload_n hx hb d_A_law_992 rfl (lv_at hl 5 rfl) ?_
    refine lv_iconst (v := 0) hx hb d_A_law_993 (by decide) ?_
    refine va_lald hx hb hK hP 30 22 rfl rfl qa_in0 d_A_law_994 ?_
    refine lv_iload hx hb d_A_law_995 (lv_at hl 0 rfl) ?_
    refine lv_i2l (v := r1.toInt64) hx hb d_A_law_997 rfl ?_
    refine W.lcmp hx hb d_A_law_998 ?_
    refine lv_if_eq (tgt := 1004) hx hb d_A_law_999 (by decide) (fun e3 => hend _ _ _ hP hD hS (lv_sub hl [2, 3, 4, 5, 6, 7] rfl)) (fun e3 => absurd (by rw [ef9, e9, ← h4 a9 u9 e9]; exact la_cmp0 _) e3)
set_option maxHeartbeats 4000000 in
set_option maxRecDepth 100000 in
theorem la_count {p : Program} {l : Launch} {e : Env} {s : State} {m : MethodId} {below : List Frame} {meth : Method} {cd : Code} {b L : Nat} {xs : Nat → Int32} (dC : Nat → ClassId) (dI : Nat → Nat → Nat) (h : Nat → Nat) (c : Nat → ClassId) (hm : Nat → Nat) (cm : Nat → ClassId) (o od : Nat) (co cod : ClassId) (sa : Nat → Nat) (C0 : la_C l p s m meth cd b L xs sa) (g : Sg) (t : Sm) (fo : Nat → Int64) (fd : Nat → UInt64) (x5 : Int32) (hi1 : vp_in (x5 + 1) L) (r0 : (String × Sg) ⊕ (Int32 × Sg)) (r1 : Int32) (t1 : Sm) (h1 : f_Q_count g (xs (x5 + 1).toNatClampNeg) = some r0) (h2 : f_N_count t (xs (x5 + 1).toNatClampNeg) = some (r1, t1)) (h3 : t1.1 20 0 = qa_code (["java/lang/IllegalArgumentException"] : List String) r0) (h4 : ∀ r u, r0 = .inr (r, u) → r = r1) {cells slots : Nat} (hc : cells + 1 ≤ 1074) (hs : slots + 6 ≤ 9958) {H : Heap} {locs : List Loc} {ls : Array Slot} (hK : va_K (dC, dI) vwCl (la_T c cm co cod) s) (hP : va_P (dC, dI) vwCl (la_W h c hm cm o od co cod g t fo fd) H) (hD : va_D (fun q : Nat => s.heap.size ≤ q) (la_W h c hm cm o od co cod g t fo fd)) (hS : va_S (fun q : Nat => s.heap.size ≤ q) s.heap H locs) (hl : lv_has ls 9 [(0, .ref b), (1, .ref (h 0)), (2, .ref (hm 0)), (3, .ref o), (4, .ref od), (5, .int x5)]) (k9 : ∀ (fo : Nat → Int64) (fd : Nat → UInt64) (H : Heap) (locs : List Loc) (ls : Array Slot), va_P (dC, dI) vwCl (la_W h c hm cm o od co cod (qa_st r0) t1 fo fd) H → va_D (fun q : Nat => s.heap.size ≤ q) (la_W h c hm cm o od co cod (qa_st r0) t1 fo fd) → va_S (fun q : Nat => s.heap.size ≤ q) s.heap H locs → lv_has ls 9 [(0, .ref b), (1, .ref (h 0)), (2, .ref (hm 0)), (3, .ref o), (4, .ref od), (5, .int x5)] → W p l e room_1 s m #[Value.ref b] below meth cd H locs (cells + 1) (slots + 6) (lw_Z below #[Value.ref b] s) (F0 m 1076 ls [])) : W p l e room_1 s m #[Value.ref b] below meth cd H locs cells slots (lw_Z below #[Value.ref b] s) (F0 m 1020 ls []) := by
  obtain ⟨⟨hx, hb, hml, hown, hg, hX, hbl⟩, hl9, hNs, hU, hN, hc1, hc2, hst⟩ := C0
  have hA : ∀ q : Nat, s.heap.size ≤ q → (fun q : Nat => s.heap.size ≤ q) q := fun _ h => h
  have hbA : ¬ (fun q : Nat => s.heap.size ≤ q) b := Nat.not_le.mpr hbl
  refine lv_aload_n hx hb d_A_law_1020 rfl (lv_at hl 1 rfl) ?_
  refine lv_aload_n hx hb d_A_law_1021 rfl (lv_at hl 0 rfl) ?_
  refine lv_iload hx hb d_A_law_1022 (lv_at hl 5 rfl) ?_
  refine lv_iconst (v := 1) hx hb d_A_law_1024 (by decide) ?_
  refine lv_iadd hx hb d_A_law_1025 ?_
  refine va_sld hx hb hX hbl hbA hS hi1 d_A_law_1026 ?_
  refine lv_aload_n hx hb d_A_law_1027 rfl (lv_at hl 3 rfl) ?_
  have hPc := hP.sub (ws' := (qa_W h c o co (g, fo))) [0, 1, 2, 3, 4, 5, 6, 7, 8, 9, 10, 11, 12, 13, 14, 15, 16, 30] rfl
  have hDc := hD.sub (ws' := (qa_W h c o co (g, fo))) [0, 1, 2, 3, 4, 5, 6, 7, 8, 9, 10, 11, 12, 13, 14, 15, 16, 30] (by decide) rfl
  have hKc := hK.sub (tys' := qa_T c co) [0, 1, 2, 3, 4, 5, 6, 7, 8, 9, 22] rfl
  have hFc := va_free (wc := (qa_W h c o co (g, fo))) hD hS hA [0, 1, 2, 3, 4, 5, 6, 7, 8, 9, 10, 11, 12, 13, 14, 15, 16, 30] rfl
  refine va_calli (vx_runSW (own := "QuakeServerLaw") (hh := [(0, 9, 12, 13)]) (As := [.ref (h 0), .int (xs (x5 + 1).toNatClampNeg), .ref o]) (rest := []) ⟨hx, hb, hml, hown, hg⟩ (c_A_count l hl9 dC dI h c H.size o co (sa 201) g fo (xs (x5 + 1).toNatClampNeg) r0 h1) (vx_cwSW 3 hg (qs_gSW t_604 t_605 t_0 t_606) rfl rfl rfl (by decide +kernel) ⟨Nat.le_of_ble_eq_true rfl, Nat.le_of_ble_eq_true rfl⟩) ⟨fun a U g mk q => by obtain ⟨q0, q1, qP, qK, qD, qN, qU, qS, qc, qd, qs201⟩ := q; exact ⟨q0, q1, qP, va_K.moved (u := U) (U := U.calling g mk a) (Vm.Alike.refl U.vm) qK, qD, qs_N.same (s := U) (U := U.calling g mk a) rfl qN, vx_Zq.moved (u := U) (U := U.calling g mk a) (Vm.Alike.refl U.vm) qU, vx_Zq.moved (u := U) (U := U.calling g mk a) (Vm.Alike.refl U.vm) qS, va_Nc.moved (u := U) (U := U.calling g mk a) (Vm.Alike.refl U.vm) qc, va_Nc.moved (u := U) (U := U.calling g mk a) (Vm.Alike.refl U.vm) qd, vk_R.same (u := U) (U := U.calling g mk a) rfl qs201⟩, fun U9 hU9 hW9 => ⟨rfl, by rw [hU9], by rw [hU9]; exact hPc, va_K.moved hW9.alike hKc, hDc.weaken (fun _ _ _ _ => trivial), hNs.warm hW9, by rw [hU9]; exact vx_Zq.moved hW9.alike ((hU.kept hS.2.1).narrow hFc), by rw [hU9]; exact vx_Zq.moved hW9.alike ((hN.kept hS.2.1).narrow hFc), hc1.moved hW9.alike, hc2.moved hW9.alike, vk_R.warm hW9 (hst (201, "nothing of that number is counted") (List.mem_of_getElem? (i := 15) rfl))⟩⟩ rfl rfl hl.1 rfl (lv_room (Nat.le_of_ble_eq_true rfl)) d_A_law_1028 ⟨hc, hs⟩) hS (fun q _ h => hFc q h) hFc (fun r u T9 H1 locs ht hvm hw hB hz hk hS => ?_)
  obtain ⟨rfl, rfl⟩ := hw
  obtain ⟨hP1, hK1, hD1⟩ := hB
  rw [ht] at hP1
  obtain ⟨hP, hD⟩ := va_join (wr := (ms_W hm cm t ++ [(od, .inl (cod, 1, .inr (.inr (.inr (.inl fd)))))])) (w1 := (qa_W h c o co (qa_st r0, (qa_out r0 fo)))) hP hD [0, 1, 2, 3, 4, 5, 6, 7, 8, 9, 10, 11, 12, 13, 14, 15, 16, 30] [17, 18, 19, 20, 21, 22, 23, 24, 25, 26, 27, 28, 29, 31] rfl rfl (by decide) (by decide) hk hFc hP1 hD1
  have hP := hP.sub (ws' := la_W h c hm cm o od co cod (qa_st r0) t (qa_out r0 fo) fd) [14, 15, 16, 17, 18, 19, 20, 21, 22, 23, 24, 25, 26, 27, 28, 29, 30, 0, 1, 2, 3, 4, 5, 6, 7, 8, 9, 10, 11, 12, 31, 13] rfl
  have hD := hD.sub (ws' := la_W h c hm cm o od co cod (qa_st r0) t (qa_out r0 fo) fd) [14, 15, 16, 17, 18, 19, 20, 21, 22, 23, 24, 25, 26, 27, 28, 29, 30, 0, 1, 2, 3, 4, 5, 6, 7, 8, 9, 10, 11, 12, 31, 13] (by decide) rfl
  generalize H1 = H at hP hS ⊢
  obtain ⟨kk, ekk⟩ : ∃ y : Int32, y = qa_code (["java/lang/IllegalArgumentException"] : List String) r0 := ⟨_, rfl⟩
  rw [← ekk]
  obtain ⟨f9, ef9⟩ : ∃ y, y = (qa_out r0 fo) := ⟨_, rfl⟩
  rw [← ef9] at hP hD
  refine lv_istore (lv' := [(6, .int kk), (0, .ref b), (1, .ref (h 0)), (2, .ref (hm 0)), (3, .ref o), (4, .ref od), (5, .int x5)]) hx hb d_A_law_1031 hl (by decide) rfl (fun ls hl => ?_)
  refine lv_aload_n hx hb d_A_law_1033 rfl (lv_at hl 3 rfl) ?_
  refine lv_aload_n hx hb d_A_law_1034 rfl (lv_at hl 1 rfl) ?_
  refine lv_iload hx hb d_A_law_1035 (lv_at hl 6 rfl) ?_
  refine lv_iconst (v := 1) hx hb d_A_law_1037 (by decide) ?_
  refine lv_iadd hx hb d_A_law_1038 ?_
  refine va_sld hx hb hX hbl hbA hS hi1 d_A_law_1039 ?_
  have hPc := hP.sub (ws' := (ms_W hm cm t)) [17, 18, 19, 20, 21, 22, 23, 24, 25, 26, 27, 28, 29] rfl
  have hDc := hD.sub (ws' := (ms_W hm cm t)) [17, 18, 19, 20, 21, 22, 23, 24, 25, 26, 27, 28, 29] (by decide) rfl
  have hKc := hK.sub (tys' := ms_T cm) [10, 11, 12, 13, 14, 15, 16, 17, 18, 19, 20, 21] rfl
  have hFc := va_free (wc := (ms_W hm cm t)) hD hS hA [17, 18, 19, 20, 21, 22, 23, 24, 25, 26, 27, 28, 29] rfl
  refine va_calli (va_runV (own := "QuakeServerLaw") (C := "QuakeServerModel") (As := [.int (xs (x5 + 1).toNatClampNeg)]) (rest := []) ⟨hx, hb, hml, hown, hg⟩ (c_N_count l dC dI hm cm H.size t (xs (x5 + 1).toNatClampNeg) r1 t1 h2) (cwV 1 hg (qs_gV t_863 t_864 t_865 t_8 t_866) rfl rfl rfl (by decide +kernel) ⟨Nat.le_of_ble_eq_true rfl, Nat.le_of_ble_eq_true rfl⟩) ⟨qs_blind, va_recv hKc hPc (ci := 7) (q0 := 0) rfl rfl, fun U9 hU9 hW9 => ⟨rfl, by rw [hU9], by rw [hU9]; exact hPc, va_K.moved hW9.alike hKc, hDc.weaken (fun _ _ _ _ => trivial), hNs.warm hW9⟩⟩ rfl rfl hl.1 rfl (lv_room (Nat.le_of_ble_eq_true rfl)) d_A_law_1040 ⟨hc, hs⟩) hS (fun q _ h => hFc q h) hFc (fun r u T9 H1 locs ht hvm hw hB hz hk hS => ?_)
  obtain ⟨rfl, rfl⟩ := hw
  obtain ⟨hP1, hK1, hD1⟩ := hB
  rw [ht] at hP1
  obtain ⟨hP, hD⟩ := va_join (wr := qs_W h c (qa_st r0) ++ [(o, .inl (co, 1, .inr (.inl f9))), (od, .inl (cod, 1, .inr (.inr (.inr (.inl fd)))))]) (w1 := ms_W hm cm u) hP hD [17, 18, 19, 20, 21, 22, 23, 24, 25, 26, 27, 28, 29] [0, 1, 2, 3, 4, 5, 6, 7, 8, 9, 10, 11, 12, 13, 14, 15, 16, 30, 31] rfl rfl (by decide) (by decide) hk hFc hP1 hD1
  have hP := hP.sub (ws' := la_W h c hm cm o od co cod (qa_st r0) u f9 fd) [0, 1, 2, 3, 4, 5, 6, 7, 8, 9, 10, 11, 12, 13, 14, 15, 16, 19, 20, 21, 22, 23, 24, 25, 26, 27, 28, 29, 30, 31, 17, 18] rfl
  have hD := hD.sub (ws' := la_W h c hm cm o od co cod (qa_st r0) u f9 fd) [0, 1, 2, 3, 4, 5, 6, 7, 8, 9, 10, 11, 12, 13, 14, 15, 16, 19, 20, 21, 22, 23, 24, 25, 26, 27, 28, 29, 30, 31, 17, 18] (by decide) rfl
  generalize H1 = H at hP hS ⊢
  obtain ⟨r1, rfl⟩ : ∃ y, y = r := ⟨_, rfl⟩
  obtain ⟨t1, rfl⟩ : ∃ y, y = u := ⟨_, rfl⟩
  have hP : va_P (dC, dI) vwCl (la_W h c hm cm o od co cod (qa_st r0) t1 f9 fd) H := hP
  refine lv_istore (lv' := [(7, .int r1), (6, .int kk), (0, .ref b), (1, .ref (h 0)), (2, .ref (hm 0)), (3, .ref o), (4, .ref od), (5, .int x5)]) hx hb d_A_law_1043 hl (by decide) rfl (fun ls hl => ?_)
  refine lv_aload_n hx hb d_A_law_1045 rfl (lv_at hl 4 rfl) ?_
  have hPc := hP.sub (ws' := (ms_W hm cm t1)) [17, 18, 19, 20, 21, 22, 23, 24, 25, 26, 27, 28, 29] rfl
  have hDc := hD.sub (ws' := (ms_W hm cm t1)) [17, 18, 19, 20, 21, 22, 23, 24, 25, 26, 27, 28, 29] (by decide) rfl
  have hKc := hK.sub (tys' := ms_T cm) [10, 11, 12, 13, 14, 15, 16, 17, 18, 19, 20, 21] rfl
  have hFc := va_free (wc := (ms_W hm cm t1)) hD hS hA [17, 18, 19, 20, 21, 22, 23, 24, 25, 26, 27, 28, 29] rfl
  refine va_calli (va_runV (own := "QuakeServerLaw") (C := "QuakeServerModel") (As := []) (rest := []) ⟨hx, hb, hml, hown, hg⟩ (c_N_thrown l dC dI hm cm H.size t1 (t1.1 20 0) t1 rfl) (cwV 0 hg (qs_gV t_686 t_687 t_688 t_8 t_689) rfl rfl rfl (by decide +kernel) ⟨Nat.le_of_ble_eq_true rfl, Nat.le_of_ble_eq_true rfl⟩) ⟨qs_blind, va_recv hKc hPc (ci := 7) (q0 := 0) rfl rfl, fun U9 hU9 hW9 => ⟨rfl, by rw [hU9], by rw [hU9]; exact hPc, va_K.moved hW9.alike hKc, hDc.weaken (fun _ _ _ _ => trivial), hNs.warm hW9⟩⟩ rfl rfl hl.1 rfl (lv_room (Nat.le_of_ble_eq_true rfl)) d_A_law_1046 ⟨hc, hs⟩) hS (fun q _ h => hFc q h) hFc (fun r u T9 H1 locs ht hvm hw hB hz hk hS => ?_)
  obtain ⟨rfl, rfl⟩ := hw
  obtain ⟨hP1, hK1, hD1⟩ := hB
  rw [ht] at hP1
  obtain ⟨hP, hD⟩ := va_join (wr := qs_W h c (qa_st r0) ++ [(o, .inl (co, 1, .inr (.inl f9))), (od, .inl (cod, 1, .inr (.inr (.inr (.inl fd)))))]) (w1 := ms_W hm cm u) hP hD [17, 18, 19, 20, 21, 22, 23, 24, 25, 26, 27, 28, 29] [0, 1, 2, 3, 4, 5, 6, 7, 8, 9, 10, 11, 12, 13, 14, 15, 16, 30, 31] rfl rfl (by decide) (by decide) hk hFc hP1 hD1
  have hP := hP.sub (ws' := la_W h c hm cm o od co cod (qa_st r0) u f9 fd) [0, 1, 2, 3, 4, 5, 6, 7, 8, 9, 10, 11, 12, 13, 14, 15, 16, 19, 20, 21, 22, 23, 24, 25, 26, 27, 28, 29, 30, 31, 17, 18] rfl
  have hD := hD.sub (ws' := la_W h c hm cm o od co cod (qa_st r0) u f9 fd) [0, 1, 2, 3, 4, 5, 6, 7, 8, 9, 10, 11, 12, 13, 14, 15, 16, 19, 20, 21, 22, 23, 24, 25, 26, 27, 28, 29, 30, 31, 17, 18] (by decide) rfl
  generalize H1 = H at hP hS ⊢
  obtain ⟨t1, rfl⟩ : ∃ y, y = u := ⟨_, rfl⟩
  refine lv_iload hx hb d_A_law_1049 (lv_at hl 1 rfl) ?_
  refine lv_icmp_eq (tgt := 1056) hx hb d_A_law_1051 (by decide) (fun e1 => ?_) (fun e1 => absurd (h3.trans ekk.symm) e1)
  refine lv_iload hx hb d_A_law_1056 (lv_at hl 1 rfl) ?_
  have hend : ∀ (H : Heap) (locs : List Loc) (ls : Array Slot), va_P (dC, dI) vwCl (la_W h c hm cm o od co cod (qa_st r0) t1 f9 fd) H → va_D (fun q : Nat => s.heap.size ≤ q) (la_W h c hm cm o od co cod (qa_st r0) t1 f9 fd) → va_S (fun q : Nat => s.heap.size ≤ q) s.heap H locs → lv_has ls 9 [(0, .ref b), (1, .ref (h 0)), (2, .ref (hm 0)), (3, .ref o), (4, .ref od), (5, .int x5)] → W p l e room_1 s m #[Value.ref b] below meth cd H locs (cells + 1) (slots + 6) (lw_Z below #[Value.ref b] s) (F0 m 1073 ls []) := fun H locs ls hP hD hS hl => by
    refine lv_goto (tgt := 1076) hx hb d_A_law_1073 (by decide) ?_
    exact k9 _ _ H locs ls hP hD hS hl
  refine lv_if_ne (tgt := 1073) hx hb d_A_law_1058 (by decide) (fun e2 => ?_) (fun e2 => ?_)
  · exact hend _ _ _ hP hD hS (lv_sub hl [2, 3, 4, 5, 6, 7] rfl)
  · obtain ⟨a9, u9, e9⟩ := qa_code0 (Nat.le_of_ble_eq_true rfl) (ekk.symm.trans e2)
    refine lv_aload_n hx hb d_A_law_1061 rfl (lv_at hl 5 rfl) ?_
    refine lv_iconst (v := 0) hx hb d_A_law_1062 (by decide) ?_
    refine va_lald hx hb hK hP 30 22 rfl rfl qa_in0 d_A_law_1063 ?_
    refine lv_iload hx hb d_A_law_1064 (lv_at hl 0 rfl) ?_
    refine lv_i2l (v := r1.toInt64) hx hb d_A_law_1066 rfl ?_
    refine W.lcmp hx hb d_A_law_1067 ?_
    refine lv_if_eq (tgt := 1073) hx hb d_A_law_1068 (by decide) (fun e3 => hend _ _ _ hP hD hS (lv_sub hl [2, 3, 4, 5, 6, 7] rfl)) (fun e3 => absurd (by rw [ef9, e9, ← h4 a9 u9 e9]; exact la_cmp0 _) e3)
