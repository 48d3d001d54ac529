theorem la_gt {L j : Nat} (hL : L ≤ 3072) (hj : 6 * j ≤ L) (q : L < 6 * j + 6) : Int32.ofNat L - 6 < nI (6 * j) := by
  show nI L - nI 6 < nI (6 * j)
  rw [Int32.lt_iff_toInt_lt, pk_sub_toInt (by omega) (by omega), nI_toInt (by omega)]
  omega
def sm_wall (Rel : Sg → Sm → Prop) : Prop := ∀ (g : Sg) (t : Sm), Rel g t → ∀ (x1 x2 x3 x4 : Int32), ∃ r0 r1 t1, f_Q_wall g x1 x2 x3 x4 = some r0 ∧ f_N_wall t x1 x2 x3 x4 = some (r1, t1) ∧ t1.1 20 0 = qa_code (["java/lang/IllegalArgumentException", "java/lang/IllegalStateException"] : List String) r0 ∧ (∀ r u, r0 = .inr (r, u) → r = r1) ∧ Rel (qa_st r0) t1
def sm_instr (Rel : Sg → Sm → Prop) : Prop := ∀ (g : Sg) (t : Sm), Rel g t → ∀ (x1 x2 x3 x4 x5 : Int32), ∃ r0 r1 t1, f_Q_instr g x1 x2 x3 x4 x5 = some r0 ∧ f_N_instr t x1 x2 x3 x4 x5 = some (r1, t1) ∧ t1.1 20 0 = qa_code (["java/lang/IllegalArgumentException", "java/lang/IllegalStateException"] : List String) r0 ∧ (∀ r u, r0 = .inr (r, u) → r = r1) ∧ Rel (qa_st r0) t1
def sm_spawn (Rel : Sg → Sm → Prop) : Prop := ∀ (g : Sg) (t : Sm), Rel g t → ∀ (x1 x2 x3 : Int32), ∃ r0 r1 t1, f_Q_spawn g (FP.dmul (FP.i2d x1) (4593671619917905920 : UInt64)) (FP.dmul (FP.i2d x2) (4593671619917905920 : UInt64)) (FP.dmul (FP.i2d x3) (4593671619917905920 : UInt64)) = some r0 ∧ f_N_spawn t (FP.dmul (FP.i2d x1) (4593671619917905920 : UInt64)) (FP.dmul (FP.i2d x2) (4593671619917905920 : UInt64)) (FP.dmul (FP.i2d x3) (4593671619917905920 : UInt64)) = some (r1, t1) ∧ t1.1 20 0 = qa_code (["java/lang/IllegalArgumentException", "java/lang/IllegalStateException"] : List String) r0 ∧ (∀ r u, r0 = .inr (r, u) → r = r1) ∧ Rel (qa_st r0) t1
def sm_remove (Rel : Sg → Sm → Prop) : Prop := ∀ (g : Sg) (t : Sm), Rel g t → ∀ (x1 : Int32), ∃ r0 r1 t1, f_Q_remove g x1 = some r0 ∧ f_N_remove t x1 = some (r1, t1) ∧ t1.1 20 0 = qa_code (["java/util/NoSuchElementException"] : List String) r0 ∧ (∀ r u, r0 = .inr (r, u) → r = r1) ∧ Rel (qa_st r0) t1
def sm_set (Rel : Sg → Sm → Prop) : Prop := ∀ (g : Sg) (t : Sm), Rel g t → ∀ (x1 x2 x3 : Int32), ∃ r0 r1 t1, f_Q_set g x1 x2 (FP.dmul (FP.i2d x3) (4593671619917905920 : UInt64)) = some r0 ∧ f_N_set t x1 x2 (FP.dmul (FP.i2d x3) (4593671619917905920 : UInt64)) = some (r1, t1) ∧ t1.1 20 0 = qa_code (["java/util/NoSuchElementException", "java/lang/IllegalArgumentException"] : List String) r0 ∧ (∀ r u, r0 = .inr (r, u) → Op.cmpValue (FP.dcmp r r1) .l = 0) ∧ Rel (qa_st r0) t1
def sm_get (Rel : Sg → Sm → Prop) : Prop := ∀ (g : Sg) (t : Sm), Rel g t → ∀ (x1 x2 : Int32), ∃ r0 r1 t1, f_Q_get g x1 x2 = some r0 ∧ f_N_get t x1 x2 = some (r1, t1) ∧ t1.1 20 0 = qa_code (["java/util/NoSuchElementException", "java/lang/IllegalArgumentException"] : List String) r0 ∧ (∀ r u, r0 = .inr (r, u) → Op.cmpValue (FP.dcmp r r1) .l = 0) ∧ Rel (qa_st r0) t1
def sm_setGlobal (Rel : Sg → Sm → Prop) : Prop := ∀ (g : Sg) (t : Sm), Rel g t → ∀ (x1 x2 : Int32), ∃ r0 r1 t1, f_Q_setGlobal g x1 x2 = some r0 ∧ f_N_setGlobal t x1 x2 = some (r1, t1) ∧ t1.1 20 0 = qa_code (["java/lang/IllegalArgumentException"] : List String) r0 ∧ (∀ r u, r0 = .inr (r, u) → r = r1) ∧ Rel (qa_st r0) t1
def sm_global (Rel : Sg → Sm → Prop) : Prop := ∀ (g : Sg) (t : Sm), Rel g t → ∀ (x1 : Int32), ∃ r0 r1 t1, f_Q_global g x1 = some r0 ∧ f_N_global t x1 = some (r1, t1) ∧ t1.1 20 0 = qa_code (["java/lang/IllegalArgumentException"] : List String) r0 ∧ (∀ r u, r0 = .inr (r, u) → r = r1) ∧ Rel (qa_st r0) t1
def sm_run (Rel : Sg → Sm → Prop) : Prop := ∀ (g : Sg) (t : Sm), Rel g t → ∀ (x1 x2 x3 : Int32), ∃ r0 r1 t1, f_Q_run g x1 x2 x3 = some r0 ∧ f_N_run t x1 x2 x3 = some (r1, t1) ∧ t1.1 20 0 = qa_code (["java/lang/IllegalArgumentException"] : List String) r0 ∧ (∀ r u, r0 = .inr (r, u) → r = r1) ∧ Rel (qa_st r0) t1
def sm_tick (Rel : Sg → Sm → Prop) : Prop := ∀ (g : Sg) (t : Sm), Rel g t → ∀ (x1 : Int32), ∃ r0 r1 t1, f_Q_tick g x1 = some r0 ∧ f_N_tick t x1 = some (r1, t1) ∧ t1.1 20 0 = qa_code (["java/lang/IllegalArgumentException"] : List String) r0 ∧ (∀ r u, r0 = .inr (r, u) → r = r1) ∧ Rel (qa_st r0) t1
def sm_change (Rel : Sg → Sm → Prop) : Prop := ∀ (g : Sg) (t : Sm), Rel g t → ∀ (x1 : Int32), ∃ r0 r1 t1, f_Q_change g x1 = some r0 ∧ f_N_change t x1 = some (r1, t1) ∧ t1.1 20 0 = qa_code (["java/util/NoSuchElementException"] : List String) r0 ∧ (∀ r u, r0 = .inr (r, u) → r = r1) ∧ Rel (qa_st r0) t1
def sm_count (Rel : Sg → Sm → Prop) : Prop := ∀ (g : Sg) (t : Sm), Rel g t → ∀ (x1 : Int32), ∃ r0 r1 t1, f_Q_count g x1 = some r0 ∧ f_N_count t x1 = some (r1, t1) ∧ t1.1 20 0 = qa_code (["java/lang/IllegalArgumentException"] : List String) r0 ∧ (∀ r u, r0 = .inr (r, u) → r = r1) ∧ Rel (qa_st r0) t1
def sm_changes (Rel : Sg → Sm → Prop) : Prop := ∀ (g : Sg) (t : Sm), Rel g t → ∃ r0 g1 t1, f_Q_changes g = some (r0, g1) ∧ f_N_changes t = some (r0, t1) ∧ Rel g1 t1
def sm_message (Rel : Sg → Sm → Prop) : Prop := ∀ (g : Sg) (t : Sm), Rel g t → ∃ r0 g1 t1, f_Q_message g = some (r0, g1) ∧ f_N_message t = some (r0, t1) ∧ Rel g1 t1
def sm_nan : Prop := ∀ x : Int32, vf_n64 (FP.dmul (FP.i2d x) (4593671619917905920 : UInt64))
def la_Sim (Rel : Sg → Sm → Prop) : Prop := sm_nan ∧ sm_wall Rel ∧ sm_instr Rel ∧ sm_spawn Rel ∧ sm_remove Rel ∧ sm_set Rel ∧ sm_get Rel ∧ sm_setGlobal Rel ∧ sm_global Rel ∧ sm_run Rel ∧ sm_tick Rel ∧ sm_change Rel ∧ sm_count Rel ∧ sm_changes Rel ∧ sm_message Rel
set_option maxHeartbeats 4000000 in
set_option maxRecDepth 100000 in
theorem la_changes {p : Program} {l : Launch} {e : Env} {s : State} {m : MethodId} {below : List Frame} {meth : Method} {cd : Code} {b L : Nat} {xs : Nat → Int32} (dC : Nat → ClassId) (dI : Nat → Nat → Nat) (h : Nat → Nat) (c : Nat → ClassId) (hm : Nat → Nat) (cm : Nat → ClassId) (o od : Nat) (co cod : ClassId) (sa : Nat → Nat) (C0 : la_C l p s m meth cd b L xs sa) (g : Sg) (t : Sm) (fo : Nat → Int64) (fd : Nat → UInt64) (x5 : Int32) (r0 : Int32) (g1 : Sg) (t1 : Sm) (h1 : f_Q_changes g = some (r0, g1)) (h2 : f_N_changes t = some (r0, t1)) {cells slots : Nat} (hc : cells ≤ 1074) (hs : slots ≤ 9958) {H : Heap} {locs : List Loc} {ls : Array Slot} (hK : va_K (dC, dI) vwCl (la_T c cm co cod) s) (hP : va_P (dC, dI) vwCl (la_W h c hm cm o od co cod g t fo fd) H) (hD : va_D (fun q : Nat => s.heap.size ≤ q) (la_W h c hm cm o od co cod g t fo fd)) (hS : va_S (fun q : Nat => s.heap.size ≤ q) s.heap H locs) (hl : lv_has ls 9 [(0, .ref b), (1, .ref (h 0)), (2, .ref (hm 0)), (3, .ref o), (4, .ref od), (5, .int x5)]) (k9 : ∀ (H : Heap) (locs : List Loc) (ls : Array Slot), va_P (dC, dI) vwCl (la_W h c hm cm o od co cod g1 t1 fo fd) H → va_D (fun q : Nat => s.heap.size ≤ q) (la_W h c hm cm o od co cod g1 t1 fo fd) → va_S (fun q : Nat => s.heap.size ≤ q) s.heap H locs → lv_has ls 9 [(0, .ref b), (1, .ref (h 0)), (2, .ref (hm 0)), (3, .ref o), (4, .ref od), (5, .int x5)] → W p l e room_1 s m #[Value.ref b] below meth cd H locs cells slots (lw_Z below #[Value.ref b] s) (F0 m 1076 ls [])) : W p l e room_1 s m #[Value.ref b] below meth cd H locs cells slots (lw_Z below #[Value.ref b] s) (F0 m 938 ls []) := by
  obtain ⟨⟨hx, hb, hml, hown, hg, hX, hbl⟩, hl9, hNs, hU, hN, hc1, hc2, hst⟩ := C0
  have hA : ∀ q : Nat, s.heap.size ≤ q → (fun q : Nat => s.heap.size ≤ q) q := fun _ h => h
  refine lv_aload_n hx hb d_A_law_938 rfl (lv_at hl 1 rfl) ?_
  have hPc := hP.sub (ws' := (qs_W h c g)) [0, 1, 2, 3, 4, 5, 6, 7, 8, 9, 10, 11, 12, 13, 14, 15, 16] rfl
  have hDc := hD.sub (ws' := (qs_W h c g)) [0, 1, 2, 3, 4, 5, 6, 7, 8, 9, 10, 11, 12, 13, 14, 15, 16] (by decide) rfl
  have hKc := hK.sub (tys' := qs_T c) [0, 1, 2, 3, 4, 5, 6, 7, 8, 9] rfl
  have hFc := va_free (wc := (qs_W h c g)) hD hS hA [0, 1, 2, 3, 4, 5, 6, 7, 8, 9, 10, 11, 12, 13, 14, 15, 16] rfl
  refine va_calli (va_runV (own := "QuakeServerLaw") (C := "QuakeServer") (As := []) (rest := []) ⟨hx, hb, hml, hown, hg⟩ (c_Q_changes l dC dI h c H.size g r0 g1 h1) (cwV 0 hg (qs_gV t_175 t_176 t_177 t_1 t_178) rfl rfl rfl (by decide +kernel) ⟨Nat.le_of_ble_eq_true rfl, Nat.le_of_ble_eq_true rfl⟩) ⟨qs_blind, va_recv hKc hPc (ci := 6) (q0 := 0) rfl rfl, fun U9 hU9 hW9 => ⟨rfl, by rw [hU9], by rw [hU9]; exact hPc, va_K.moved hW9.alike hKc, hDc.weaken (fun _ _ _ _ => trivial), hNs.warm hW9⟩⟩ rfl rfl hl.1 rfl (lv_room (Nat.le_of_ble_eq_true rfl)) d_A_law_939 ⟨hc, hs⟩) hS (fun q _ h => hFc q h) hFc (fun r u T9 H1 locs ht hvm hw hB hz hk hS => ?_)
  obtain ⟨er, eu⟩ := hw
  rw [er]
  rw [eu] at hB
  obtain ⟨hP1, hK1, hD1⟩ := hB
  rw [ht] at hP1
  obtain ⟨hP, hD⟩ := va_join (wr := ms_W hm cm t ++ [(o, .inl (co, 1, .inr (.inl fo))), (od, .inl (cod, 1, .inr (.inr (.inr (.inl fd)))))]) (w1 := qs_W h c g1) hP hD [0, 1, 2, 3, 4, 5, 6, 7, 8, 9, 10, 11, 12, 13, 14, 15, 16] [17, 18, 19, 20, 21, 22, 23, 24, 25, 26, 27, 28, 29, 30, 31] rfl rfl (by decide) (by decide) hk hFc hP1 hD1
  have hP := hP.sub (ws' := la_W h c hm cm o od co cod g1 t fo fd) [15, 16, 17, 18, 19, 20, 21, 22, 23, 24, 25, 26, 27, 28, 29, 30, 31, 0, 1, 2, 3, 4, 5, 6, 7, 8, 9, 10, 11, 12, 13, 14] rfl
  have hD := hD.sub (ws' := la_W h c hm cm o od co cod g1 t fo fd) [15, 16, 17, 18, 19, 20, 21, 22, 23, 24, 25, 26, 27, 28, 29, 30, 31, 0, 1, 2, 3, 4, 5, 6, 7, 8, 9, 10, 11, 12, 13, 14] (by decide) rfl
  generalize H1 = H at hP hS ⊢
  refine lv_aload_n hx hb d_A_law_942 rfl (lv_at hl 2 rfl) ?_
  have hPc := hP.sub (ws' := (ms_W hm cm t)) [17, 18, 19, 20, 21, 22, 23, 24, 25, 26, 27, 28, 29] rfl
  have hDc := hD.sub (ws' := (ms_W hm cm t)) [17, 18, 19, 20, 21, 22, 23, 24, 25, 26, 27, 28, 29] (by decide) rfl
  have hKc := hK.sub (tys' := ms_T cm) [10, 11, 12, 13, 14, 15, 16, 17, 18, 19, 20, 21] rfl
  have hFc := va_free (wc := (ms_W hm cm t)) hD hS hA [17, 18, 19, 20, 21, 22, 23, 24, 25, 26, 27, 28, 29] rfl
  refine va_calli (va_runV (own := "QuakeServerLaw") (C := "QuakeServerModel") (As := []) (rest := [.int r0]) ⟨hx, hb, hml, hown, hg⟩ (c_N_changes l dC dI hm cm H.size t r0 t1 h2) (cwV 0 hg (qs_gV t_846 t_847 t_848 t_8 t_849) rfl rfl rfl (by decide +kernel) ⟨Nat.le_of_ble_eq_true rfl, Nat.le_of_ble_eq_true rfl⟩) ⟨qs_blind, va_recv hKc hPc (ci := 7) (q0 := 0) rfl rfl, fun U9 hU9 hW9 => ⟨rfl, by rw [hU9], by rw [hU9]; exact hPc, va_K.moved hW9.alike hKc, hDc.weaken (fun _ _ _ _ => trivial), hNs.warm hW9⟩⟩ rfl rfl hl.1 rfl (lv_room (Nat.le_of_ble_eq_true rfl)) d_A_law_943 ⟨hc, hs⟩) hS (fun q _ h => hFc q h) hFc (fun r u T9 H1 locs ht hvm hw hB hz hk hS => ?_)
  obtain ⟨er, eu⟩ := hw
  rw [er]
  rw [eu] at hB
  obtain ⟨hP1, hK1, hD1⟩ := hB
  rw [ht] at hP1
  obtain ⟨hP, hD⟩ := va_join (wr := qs_W h c g1 ++ [(o, .inl (co, 1, .inr (.inl fo))), (od, .inl (cod, 1, .inr (.inr (.inr (.inl fd)))))]) (w1 := ms_W hm cm t1) hP hD [17, 18, 19, 20, 21, 22, 23, 24, 25, 26, 27, 28, 29] [0, 1, 2, 3, 4, 5, 6, 7, 8, 9, 10, 11, 12, 13, 14, 15, 16, 30, 31] rfl rfl (by decide) (by decide) hk hFc hP1 hD1
  have hP := hP.sub (ws' := la_W h c hm cm o od co cod g1 t1 fo fd) [0, 1, 2, 3, 4, 5, 6, 7, 8, 9, 10, 11, 12, 13, 14, 15, 16, 19, 20, 21, 22, 23, 24, 25, 26, 27, 28, 29, 30, 31, 17, 18] rfl
  have hD := hD.sub (ws' := la_W h c hm cm o od co cod g1 t1 fo fd) [0, 1, 2, 3, 4, 5, 6, 7, 8, 9, 10, 11, 12, 13, 14, 15, 16, 19, 20, 21, 22, 23, 24, 25, 26, 27, 28, 29, 30, 31, 17, 18] (by decide) rfl
  generalize H1 = H at hP hS ⊢
  refine lv_icmp_eq (tgt := 1076) hx hb d_A_law_946 (by decide) (fun _ => ?_) (fun e1 => absurd rfl e1)
  exact k9 H locs ls hP hD hS hl
set_option maxHeartbeats 4000000 in
set_option maxRecDepth 100000 in
theorem la_message {p : Program} {l : Launch} {e : Env} {s : State} {m : MethodId} {below : List Frame} {meth : Method} {cd : Code} {b L : Nat} {xs : Nat → Int32} (dC : Nat → ClassId) (dI : Nat → Nat → Nat) (h : Nat → Nat) (c : Nat → ClassId) (hm : Nat → Nat) (cm : Nat → ClassId) (o od : Nat) (co cod : ClassId) (sa : Nat → Nat) (C0 : la_C l p s m meth cd b L xs sa) (g : Sg) (t : Sm) (fo : Nat → Int64) (fd : Nat → UInt64) (x5 : Int32) (r0 : Int32) (g1 : Sg) (t1 : Sm) (h1 : f_Q_message g = some (r0, g1)) (h2 : f_N_message t = some (r0, t1)) {cells slots : Nat} (hc : cells ≤ 1074) (hs : slots ≤ 9958) {H : Heap} {locs : List Loc} {ls : Array Slot} (hK : va_K (dC, dI) vwCl (la_T c cm co cod) s) (hP : va_P (dC, dI) vwCl (la_W h c hm cm o od co cod g t fo fd) H) (hD : va_D (fun q : Nat => s.heap.size ≤ q) (la_W h c hm cm o od co cod g t fo fd)) (hS : va_S (fun q : Nat => s.heap.size ≤ q) s.heap H locs) (hl : lv_has ls 9 [(0, .ref b), (1, .ref (h 0)), (2, .ref (hm 0)), (3, .ref o), (4, .ref od), (5, .int x5)]) (k9 : ∀ (H : Heap) (locs : List Loc) (ls : Array Slot), va_P (dC, dI) vwCl (la_W h c hm cm o od co cod g1 t1 fo fd) H → va_D (fun q : Nat => s.heap.size ≤ q) (la_W h c hm cm o od co cod g1 t1 fo fd) → va_S (fun q : Nat => s.heap.size ≤ q) s.heap H locs → lv_has ls 9 [(0, .ref b), (1, .ref (h 0)), (2, .ref (hm 0)), (3, .ref o), (4, .ref od), (5, .int x5)] → W p l e room_1 s m #[Value.ref b] below meth cd H locs cells slots (lw_Z below #[Value.ref b] s) (F0 m 1076 ls [])) : W p l e room_1 s m #[Value.ref b] below meth cd H locs cells slots (lw_Z below #[Value.ref b] s) (F0 m 1007 ls []) := by
  obtain ⟨⟨hx, hb, hml, hown, hg, hX, hbl⟩, hl9, hNs, hU, hN, hc1, hc2, hst⟩ := C0
  have hA : ∀ q : Nat, s.heap.size ≤ q → (fun q : Nat => s.heap.size ≤ q) q := fun _ h => h
  refine lv_aload_n hx hb d_A_law_1007 rfl (lv_at hl 1 rfl) ?_
  have hPc := hP.sub (ws' := (qs_W h c g)) [0, 1, 2, 3, 4, 5, 6, 7, 8, 9, 10, 11, 12, 13, 14, 15, 16] rfl
  have hDc := hD.sub (ws' := (qs_W h c g)) [0, 1, 2, 3, 4, 5, 6, 7, 8, 9, 10, 11, 12, 13, 14, 15, 16] (by decide) rfl
  have hKc := hK.sub (tys' := qs_T c) [0, 1, 2, 3, 4, 5, 6, 7, 8, 9] rfl
  have hFc := va_free (wc := (qs_W h c g)) hD hS hA [0, 1, 2, 3, 4, 5, 6, 7, 8, 9, 10, 11, 12, 13, 14, 15, 16] rfl
  refine va_calli (va_runV (own := "QuakeServerLaw") (C := "QuakeServer") (As := []) (rest := []) ⟨hx, hb, hml, hown, hg⟩ (c_Q_message l dC dI h c H.size g r0 g1 h1) (cwV 0 hg (qs_gV t_195 t_196 t_197 t_1 t_198) rfl rfl rfl (by decide +kernel) ⟨Nat.le_of_ble_eq_true rfl, Nat.le_of_ble_eq_true rfl⟩) ⟨qs_blind, va_recv hKc hPc (ci := 6) (q0 := 0) rfl rfl, fun U9 hU9 hW9 => ⟨rfl, by rw [hU9], by rw [hU9]; exact hPc, va_K.moved hW9.alike hKc, hDc.weaken (fun _ _ _ _ => trivial), hNs.warm hW9⟩⟩ rfl rfl hl.1 rfl (lv_room (Nat.le_of_ble_eq_true rfl)) d_A_law_1008 ⟨hc, hs⟩) hS (fun q _ h => hFc q h) hFc (fun r u T9 H1 locs ht hvm hw hB hz hk hS => ?_)
  obtain ⟨er, eu⟩ := hw
  rw [er]
  rw [eu] at hB
  obtain ⟨hP1, hK1, hD1⟩ := hB
  rw [ht] at hP1
  obtain ⟨hP, hD⟩ := va_join (wr := ms_W hm cm t ++ [(o, .inl (co, 1, .inr (.inl fo))), (od, .inl (cod, 1, .inr (.inr (.inr (.inl fd)))))]) (w1 := qs_W h c g1) hP hD [0, 1, 2, 3, 4, 5, 6, 7, 8, 9, 10, 11, 12, 13, 14, 15, 16] [17, 18, 19, 20, 21, 22, 23, 24, 25, 26, 27, 28, 29, 30, 31] rfl rfl (by decide) (by decide) hk hFc hP1 hD1
  have hP := hP.sub (ws' := la_W h c hm cm o od co cod g1 t fo fd) [15, 16, 17, 18, 19, 20, 21, 22, 23, 24, 25, 26, 27, 28, 29, 30, 31, 0, 1, 2, 3, 4, 5, 6, 7, 8, 9, 10, 11, 12, 13, 14] rfl
  have hD := hD.sub (ws' := la_W h c hm cm o od co cod g1 t fo fd) [15, 16, 17, 18, 19, 20, 21, 22, 23, 24, 25, 26, 27, 28, 29, 30, 31, 0, 1, 2, 3, 4, 5, 6, 7, 8, 9, 10, 11, 12, 13, 14] (by decide) rfl
  generalize H1 = H at hP hS ⊢
  refine lv_aload_n hx hb d_A_law_1011 rfl (lv_at hl 2 rfl) ?_
  have hPc := hP.sub (ws' := (ms_W hm cm t)) [17, 18, 19, 20, 21, 22, 23, 24, 25, 26, 27, 28, 29] rfl
  have hDc := hD.sub (ws' := (ms_W hm cm t)) [17, 18, 19, 20, 21, 22, 23, 24, 25, 26, 27, 28, 29] (by decide) rfl
  have hKc := hK.sub (tys' := ms_T cm) [10, 11, 12, 13, 14, 15, 16, 17, 18, 19, 20, 21] rfl
  have hFc := va_free (wc := (ms_W hm cm t)) hD hS hA [17, 18, 19, 20, 21, 22, 23, 24, 25, 26, 27, 28, 29] rfl
  refine va_calli (va_runV (own := "QuakeServerLaw") (C := "QuakeServerModel") (As := []) (rest := [.int r0]) ⟨hx, hb, hml, hown, hg⟩ (c_N_message l dC dI hm cm H.size t r0 t1 h2) (cwV 0 hg (qs_gV t_858 t_859 t_860 t_8 t_861) rfl rfl rfl (by decide +kernel) ⟨Nat.le_of_ble_eq_true rfl, Nat.le_of_ble_eq_true rfl⟩) ⟨qs_blind, va_recv hKc hPc (ci := 7) (q0 := 0) rfl rfl, fun U9 hU9 hW9 => ⟨rfl, by rw [hU9], by rw [hU9]; exact hPc, va_K.moved hW9.alike hKc, hDc.weaken (fun _ _ _ _ => trivial), hNs.warm hW9⟩⟩ rfl rfl hl.1 rfl (lv_room (Nat.le_of_ble_eq_true rfl)) d_A_law_1012 ⟨hc, hs⟩) hS (fun q _ h => hFc q h) hFc (fun r u T9 H1 locs ht hvm hw hB hz hk hS => ?_)
  obtain ⟨er, eu⟩ := hw
  rw [er]
  rw [eu] at hB
  obtain ⟨hP1, hK1, hD1⟩ := hB
  rw [ht] at hP1
  obtain ⟨hP, hD⟩ := va_join (wr := qs_W h c g1 ++ [(o, .inl (co, 1, .inr (.inl fo))), (od, .inl (cod, 1, .inr (.inr (.inr (.inl fd)))))]) (w1 := ms_W hm cm t1) hP hD [17, 18, 19, 20, 21, 22, 23, 24, 25, 26, 27, 28, 29] [0, 1, 2, 3, 4, 5, 6, 7, 8, 9, 10, 11, 12, 13, 14, 15, 16, 30, 31] rfl rfl (by decide) (by decide) hk hFc hP1 hD1
  have hP := hP.sub (ws' := la_W h c hm cm o od co cod g1 t1 fo fd) [0, 1, 2, 3, 4, 5, 6, 7, 8, 9, 10, 11, 12, 13, 14, 15, 16, 19, 20, 21, 22, 23, 24, 25, 26, 27, 28, 29, 30, 31, 17, 18] rfl
  have hD := hD.sub (ws' := la_W h c hm cm o od co cod g1 t1 fo fd) [0, 1, 2, 3, 4, 5, 6, 7, 8, 9, 10, 11, 12, 13, 14, 15, 16, 19, 20, 21, 22, 23, 24, 25, 26, 27, 28, 29, 30, 31, 17, 18] (by decide) rfl
  generalize H1 = H at hP hS ⊢
  refine lv_icmp_eq (tgt := 1076) hx hb d_A_law_1015 (by decide) (fun _ => ?_) (fun e1 => absurd rfl e1)
  exact k9 H locs ls hP hD hS hl
set_option maxHeartbeats 8000000 in
set_option maxRecDepth 100000 in
theorem la_loop {Rel : Sg → Sm → Prop} (hsim : la_Sim Rel) {p : Program} {l : Launch} {e : Env} {s : State} {m : MethodId} {below : List Frame} {meth : Method} {cd : Code} {b L : Nat} {xs : Nat → Int32} (dC : Nat → ClassId) (dI : Nat → Nat → Nat) (h : Nat → Nat) (c : Nat → ClassId) (hm : Nat → Nat) (cm : Nat → ClassId) (o od : Nat) (co cod : ClassId) (sa : Nat → Nat) (C0 : la_C l p s m meth cd b L xs sa) (hr : meth.sig.returnType = ret) (hlocks : meth.locks = false) (hL : L ≤ 3072) (hK : va_K (dC, dI) vwCl (la_T c cm co cod) s) : ∀ (n j : Nat), 6 * j ≤ L → L + 1 ≤ 6 * j + n → ∀ (g : Sg) (t : Sm) (fo : Nat → Int64) (fd : Nat → UInt64) (H : Heap) (locs : List Loc) (ls : Array Slot), Rel g t → va_P (dC, dI) vwCl (la_W h c hm cm o od co cod g t fo fd) H → va_D (fun q : Nat => s.heap.size ≤ q) (la_W h c hm cm o od co cod g t fo fd) → va_S (fun q : Nat => s.heap.size ≤ q) s.heap H locs → lv_has ls 9 [(0, .ref b), (1, .ref (h 0)), (2, .ref (hm 0)), (3, .ref o), (4, .ref od), (5, .int (nI (6 * j)))] → W p l e room_1 s m #[Value.ref b] below meth cd H locs (60 + j) (4000 + 6 * j) (lw_Z below #[Value.ref b] s) (F0 m 28 ls []) := by
  obtain ⟨⟨hx, hb, hml, hown, hg, hX, hbl⟩, hl9, hNs, hU, hN, hc1, hc2, hst⟩ := id C0
  obtain ⟨hnan, s_wall, s_instr, s_spawn, s_remove, s_set, s_get, s_setGlobal, s_global, s_run, s_tick, s_change, s_count, s_changes, s_message⟩ := hsim
  have hbA : ¬ (fun q : Nat => s.heap.size ≤ q) b := Nat.not_le.mpr hbl
  intro n
  induction n with
  | zero => intro j h1 h2; exact absurd h2 (by omega)
  | succ n ih =>
    intro j hj hn g t fo fd H locs ls hRel hP hD hS hl
    refine lv_iload hx hb d_A_law_28 (lv_at hl 5 rfl) ?_
    refine lv_aload_n hx hb d_A_law_30 rfl (lv_at hl 0 rfl) ?_
    refine va_slen hx hb hX hbl hbA hS d_A_law_31 ?_
    refine lv_bipush (v := 6) hx hb d_A_law_32 (by decide) ?_
    refine lv_isub hx hb d_A_law_34 ?_
    refine lv_icmp_gt (tgt := 1082) hx hb d_A_law_35 (by decide) (fun _ => ?_) (fun e1 => ?_)
    · refine lv_iconst (v := 1) hx hb d_A_law_1082 (by decide) ?_
      refine va_forget (fun q hq => hS.2.2 q hq) ?_
      refine W.widen (k := 1074) (n := 9958) (by omega) (by omega) ?_
      exact lw_ret hx hb hr hlocks d_A_law_1083
    · have hlt : 6 * j + 6 ≤ L := by
        rcases Nat.lt_or_ge L (6 * j + 6) with q | q
        · exact absurd (la_gt hL hj q) e1
        · exact q
      have hin : ∀ k : Nat, k < 6 → vp_in (nI (6 * j) + nI k) L := fun k hk => by rw [nI_add]; exact vp_in_nI (by omega) (by omega)
      have hin0 : vp_in (nI (6 * j)) L := vp_in_nI (by omega) (by omega)
      have hi1 : vp_in (nI (6 * j) + 1) L := hin 1 (by decide)
      have hi2 : vp_in (nI (6 * j) + 2) L := hin 2 (by decide)
      have hi3 : vp_in (nI (6 * j) + 3) L := hin 3 (by decide)
      have hi4 : vp_in (nI (6 * j) + 4) L := hin 4 (by decide)
      have hi5 : vp_in (nI (6 * j) + 5) L := hin 5 (by decide)
      have k9 : ∀ (g : Sg) (t : Sm), Rel g t → ∀ (fo : Nat → Int64) (fd : Nat → UInt64) (H : Heap) (locs : List Loc) (ls : Array Slot), va_P (dC, dI) vwCl (la_W h c hm cm o od co cod g t fo fd) H → va_D (fun q : Nat => s.heap.size ≤ q) (la_W h c hm cm o od co cod g t fo fd) → va_S (fun q : Nat => s.heap.size ≤ q) s.heap H locs → lv_has ls 9 [(0, .ref b), (1, .ref (h 0)), (2, .ref (hm 0)), (3, .ref o), (4, .ref od), (5, .int (nI (6 * j)))] → W p l e room_1 s m #[Value.ref b] below meth cd H locs (60 + j + 1) (4000 + 6 * j + 6) (lw_Z below #[Value.ref b] s) (F0 m 1076 ls []) := fun g t hRel fo fd H locs ls hP hD hS hl => by
        refine lv_iinc (v := nI (6 * (j + 1))) (lv' := [(5, .int (nI (6 * (j + 1)))), (0, .ref b), (1, .ref (h 0)), (2, .ref (hm 0)), (3, .ref o), (4, .ref od)]) hx hb d_A_law_1076 hl (k := 5) rfl (nI_add (6 * j) 6) (by decide) rfl (fun ls hl => ?_)
        refine lv_goto (tgt := 28) hx hb d_A_law_1079 (by decide) ?_
        exact ih (j + 1) (by omega) (by omega) g t fo fd H locs ls hRel hP hD hS (lv_sub hl [1, 2, 3, 4, 5, 0] rfl)
      refine lv_aload_n hx hb d_A_law_38 rfl (lv_at hl 0 rfl) ?_
      refine lv_iload hx hb d_A_law_39 (lv_at hl 5 rfl) ?_
      refine va_sld hx hb hX hbl hbA hS hin0 d_A_law_41 ?_
      refine lv_bipush (v := 15) hx hb d_A_law_42 (by decide) ?_
      refine lv_iand hx hb d_A_law_44 ?_
      refine lv_topi (fun z ez => ?_)
      by_cases c0 : z = 0
      · refine lv_tableIn (tgt := 116) hx hb d_A_law_45 (by rw [c0]; decide) (by rw [c0]; decide) (by rw [c0]; rfl) (by decide) ?_
        obtain ⟨r0, r1, t1, q1, q2, q3, q4, q5⟩ := s_wall g t hRel (xs (nI (6 * j) + 1).toNatClampNeg) (xs (nI (6 * j) + 2).toNatClampNeg) (xs (nI (6 * j) + 3).toNatClampNeg) (xs (nI (6 * j) + 4).toNatClampNeg)
        exact la_wall dC dI h c hm cm o od co cod sa C0 g t fo fd _ hi1 hi2 hi3 hi4 r0 r1 t1 q1 q2 q3 q4 (by omega) (by omega) hK hP hD hS hl (fun fo fd H locs ls hP hD hS hl => k9 _ _ q5 fo fd H locs ls hP hD hS hl)
      by_cases c1 : z = 1
      · refine lv_tableIn (tgt := 208) hx hb d_A_law_45 (by rw [c1]; decide) (by rw [c1]; decide) (by rw [c1]; rfl) (by decide) ?_
        obtain ⟨r0, r1, t1, q1, q2, q3, q4, q5⟩ := s_instr g t hRel (xs (nI (6 * j) + 1).toNatClampNeg) (xs (nI (6 * j) + 2).toNatClampNeg) (xs (nI (6 * j) + 3).toNatClampNeg) (xs (nI (6 * j) + 4).toNatClampNeg) (xs (nI (6 * j) + 5).toNatClampNeg)
        exact la_instr dC dI h c hm cm o od co cod sa C0 g t fo fd _ hi1 hi2 hi3 hi4 hi5 r0 r1 t1 q1 q2 q3 q4 (by omega) (by omega) hK hP hD hS hl (fun fo fd H locs ls hP hD hS hl => k9 _ _ q5 fo fd H locs ls hP hD hS hl)
      by_cases c2 : z = 2
      · refine lv_tableIn (tgt := 312) hx hb d_A_law_45 (by rw [c2]; decide) (by rw [c2]; decide) (by rw [c2]; rfl) (by decide) ?_
        obtain ⟨r0, r1, t1, q1, q2, q3, q4, q5⟩ := s_spawn g t hRel (xs (nI (6 * j) + 1).toNatClampNeg) (xs (nI (6 * j) + 2).toNatClampNeg) (xs (nI (6 * j) + 3).toNatClampNeg)
        exact la_spawn dC dI h c hm cm o od co cod sa C0 g t fo fd _ hi1 hi2 hi3 hnan r0 r1 t1 q1 q2 q3 q4 (by omega) (by omega) hK hP hD hS hl (fun fo fd H locs ls hP hD hS hl => k9 _ _ q5 fo fd H locs ls hP hD hS hl)
      by_cases c3 : z = 3
      · refine lv_tableIn (tgt := 422) hx hb d_A_law_45 (by rw [c3]; decide) (by rw [c3]; decide) (by rw [c3]; rfl) (by decide) ?_
        obtain ⟨r0, r1, t1, q1, q2, q3, q4, q5⟩ := s_remove g t hRel (xs (nI (6 * j) + 1).toNatClampNeg)
        exact la_remove dC dI h c hm cm o od co cod sa C0 g t fo fd _ hi1 r0 r1 t1 q1 q2 q3 q4 (by omega) (by omega) hK hP hD hS hl (fun fo fd H locs ls hP hD hS hl => k9 _ _ q5 fo fd H locs ls hP hD hS hl)
      by_cases c4 : z = 4
      · refine lv_tableIn (tgt := 478) hx hb d_A_law_45 (by rw [c4]; decide) (by rw [c4]; decide) (by rw [c4]; rfl) (by decide) ?_
        obtain ⟨r0, r1, t1, q1, q2, q3, q4, q5⟩ := s_set g t hRel (xs (nI (6 * j) + 1).toNatClampNeg) (xs (nI (6 * j) + 2).toNatClampNeg) (xs (nI (6 * j) + 3).toNatClampNeg)
        exact la_set dC dI h c hm cm o od co cod sa C0 g t fo fd _ hi1 hi2 hi3 hnan r0 r1 t1 q1 q2 q3 q4 (by omega) (by omega) hK hP hD hS hl (fun fo fd H locs ls hP hD hS hl => k9 _ _ q5 fo fd H locs ls hP hD hS hl)
      by_cases c5 : z = 5
      · refine lv_tableIn (tgt := 589) hx hb d_A_law_45 (by rw [c5]; decide) (by rw [c5]; decide) (by rw [c5]; rfl) (by decide) ?_
        obtain ⟨r0, r1, t1, q1, q2, q3, q4, q5⟩ := s_get g t hRel (xs (nI (6 * j) + 1).toNatClampNeg) (xs (nI (6 * j) + 2).toNatClampNeg)
        exact la_get dC dI h c hm cm o od co cod sa C0 g t fo fd _ hi1 hi2 r0 r1 t1 q1 q2 q3 q4 (by omega) (by omega) hK hP hD hS hl (fun fo fd H locs ls hP hD hS hl => k9 _ _ q5 fo fd H locs ls hP hD hS hl)
      by_cases c6 : z = 6
      · refine lv_tableIn (tgt := 678) hx hb d_A_law_45 (by rw [c6]; decide) (by rw [c6]; decide) (by rw [c6]; rfl) (by decide) ?_
        obtain ⟨r0, r1, t1, q1, q2, q3, q4, q5⟩ := s_setGlobal g t hRel (xs (nI (6 * j) + 1).toNatClampNeg) (xs (nI (6 * j) + 2).toNatClampNeg)
        exact la_setGlobal dC dI h c hm cm o od co cod sa C0 g t fo fd _ hi1 hi2 r0 r1 t1 q1 q2 q3 q4 (by omega) (by omega) hK hP hD hS hl (fun fo fd H locs ls hP hD hS hl => k9 _ _ q5 fo fd H locs ls hP hD hS hl)
      by_cases c7 : z = 7
      · refine lv_tableIn (tgt := 746) hx hb d_A_law_45 (by rw [c7]; decide) (by rw [c7]; decide) (by rw [c7]; rfl) (by decide) ?_
        obtain ⟨r0, r1, t1, q1, q2, q3, q4, q5⟩ := s_global g t hRel (xs (nI (6 * j) + 1).toNatClampNeg)
        exact la_global dC dI h c hm cm o od co cod sa C0 g t fo fd _ hi1 r0 r1 t1 q1 q2 q3 q4 (by omega) (by omega) hK hP hD hS hl (fun fo fd H locs ls hP hD hS hl => k9 _ _ q5 fo fd H locs ls hP hD hS hl)
      by_cases c8 : z = 8
      · refine lv_tableIn (tgt := 802) hx hb d_A_law_45 (by rw [c8]; decide) (by rw [c8]; decide) (by rw [c8]; rfl) (by decide) ?_
        obtain ⟨r0, r1, t1, q1, q2, q3, q4, q5⟩ := s_run g t hRel (xs (nI (6 * j) + 1).toNatClampNeg) (xs (nI (6 * j) + 2).toNatClampNeg) (xs (nI (6 * j) + 3).toNatClampNeg)
        exact la_run dC dI h c hm cm o od co cod sa C0 g t fo fd _ hi1 hi2 hi3 r0 r1 t1 q1 q2 q3 q4 (by omega) (by omega) hK hP hD hS hl (fun fo fd H locs ls hP hD hS hl => k9 _ _ q5 fo fd H locs ls hP hD hS hl)
      by_cases c9 : z = 9
      · refine lv_tableIn (tgt := 882) hx hb d_A_law_45 (by rw [c9]; decide) (by rw [c9]; decide) (by rw [c9]; rfl) (by decide) ?_
        obtain ⟨r0, r1, t1, q1, q2, q3, q4, q5⟩ := s_tick g t hRel (xs (nI (6 * j) + 1).toNatClampNeg)
        exact la_tick dC dI h c hm cm o od co cod sa C0 g t fo fd _ hi1 r0 r1 t1 q1 q2 q3 q4 (by omega) (by omega) hK hP hD hS hl (fun fo fd H locs ls hP hD hS hl => k9 _ _ q5 fo fd H locs ls hP hD hS hl)
      by_cases c10 : z = 10
      · refine lv_tableIn (tgt := 938) hx hb d_A_law_45 (by rw [c10]; decide) (by rw [c10]; decide) (by rw [c10]; rfl) (by decide) ?_
        obtain ⟨r0, g1, t1, q1, q2, q3⟩ := s_changes g t hRel
        refine la_changes dC dI h c hm cm o od co cod sa C0 g t fo fd _ r0 g1 t1 q1 q2 (by omega) (by omega) hK hP hD hS hl (fun H locs ls hP hD hS hl => ?_)
        refine W.widen (k := 60 + j + 1) (n := 4000 + 6 * j + 6) (by omega) (by omega) ?_
        exact k9 _ _ q3 fo fd H locs ls hP hD hS hl
      by_cases c11 : z = 11
      · refine lv_tableIn (tgt := 951) hx hb d_A_law_45 (by rw [c11]; decide) (by rw [c11]; decide) (by rw [c11]; rfl) (by decide) ?_
        obtain ⟨r0, r1, t1, q1, q2, q3, q4, q5⟩ := s_change g t hRel (xs (nI (6 * j) + 1).toNatClampNeg)
        exact la_change dC dI h c hm cm o od co cod sa C0 g t fo fd _ hi1 r0 r1 t1 q1 q2 q3 q4 (by omega) (by omega) hK hP hD hS hl (fun fo fd H locs ls hP hD hS hl => k9 _ _ q5 fo fd H locs ls hP hD hS hl)
      by_cases c12 : z = 12
      · refine lv_tableIn (tgt := 1007) hx hb d_A_law_45 (by rw [c12]; decide) (by rw [c12]; decide) (by rw [c12]; rfl) (by decide) ?_
        obtain ⟨r0, g1, t1, q1, q2, q3⟩ := s_message g t hRel
        refine la_message dC dI h c hm cm o od co cod sa C0 g t fo fd _ r0 g1 t1 q1 q2 (by omega) (by omega) hK hP hD hS hl (fun H locs ls hP hD hS hl => ?_)
        refine W.widen (k := 60 + j + 1) (n := 4000 + 6 * j + 6) (by omega) (by omega) ?_
        exact k9 _ _ q3 fo fd H locs ls hP hD hS hl
      by_cases c13 : z = 13
      · refine lv_tableIn (tgt := 1020) hx hb d_A_law_45 (by rw [c13]; decide) (by rw [c13]; decide) (by rw [c13]; rfl) (by decide) ?_
        obtain ⟨r0, r1, t1, q1, q2, q3, q4, q5⟩ := s_count g t hRel (xs (nI (6 * j) + 1).toNatClampNeg)
        exact la_count dC dI h c hm cm o od co cod sa C0 g t fo fd _ hi1 r0 r1 t1 q1 q2 q3 q4 (by omega) (by omega) hK hP hD hS hl (fun fo fd H locs ls hP hD hS hl => k9 _ _ q5 fo fd H locs ls hP hD hS hl)
      refine lv_tableOut (tgt := 1076) hx hb d_A_law_45 (by have := lv_neT (a := 0) c0 (by decide); have := lv_neT (a := 1) c1 (by decide); have := lv_neT (a := 2) c2 (by decide); have := lv_neT (a := 3) c3 (by decide); have := lv_neT (a := 4) c4 (by decide); have := lv_neT (a := 5) c5 (by decide); have := lv_neT (a := 6) c6 (by decide); have := lv_neT (a := 7) c7 (by decide); have := lv_neT (a := 8) c8 (by decide); have := lv_neT (a := 9) c9 (by decide); have := lv_neT (a := 10) c10 (by decide); have := lv_neT (a := 11) c11 (by decide); have := lv_neT (a := 12) c12 (by decide); have := lv_neT (a := 13) c13 (by decide); omega) (by decide) ?_
      refine W.widen (k := 60 + j + 1) (n := 4000 + 6 * j + 6) (by omega) (by omega) ?_
      exact k9 _ _ hRel fo fd H locs ls hP hD hS hl
