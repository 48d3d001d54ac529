def q_FR (g : Sg) (t : Sm) (d : Nat) : Prop := ∀ i : Nat, i < d → ∃ f p : Nat, f < 6 ∧ p ≤ 14 ∧ g 14 i = nI f ∧ g 15 i = nI p ∧ t.1 12 i = nI (15 * f + p)
def q_MA (g : Sg) (t : Sm) (pc : Int32) : Prop := (g 21 0 = -1 ∧ pc = -1) ∨ ∃ d f p m : Nat, d < 6 ∧ g 21 0 = nI d ∧ t.1 29 0 = nI d ∧ q_FR g t d ∧ f < 6 ∧ g 14 d = nI f ∧ g 15 d = nI p ∧ pc = nI (15 * f + p) ∧ g 12 f = nI m ∧ m ≤ 14 ∧ p < m
theorem div15 {f p : Nat} (hf : f < 6) (hp : p ≤ 14) : nI (15 * f + p) / 15 = nI f := by
  rw [show (15 : Int32) = nI 15 from rfl, pk_div (by omega) (by decide) (by decide)]
  exact congrArg nI (by omega)
theorem rem15 {f p : Nat} (hp : p ≤ 14) : nI (15 * f + p) - nI f * 15 = nI p := by
  rw [show (15 : Int32) = nI 15 from rfl, pk_mul, pk_sub (by omega)]
  exact congrArg nI (by omega)
theorem unw : ∀ d : Nat, d < 6 → ∀ n1 n2 : Nat, d + 1 < n1 → d + 1 < n2 → ∀ (g : Sg) (t : Sm) (pc : Int32) (f p : Nat), q_Rz g t → g 21 0 = nI d → t.1 29 0 = nI d → q_FR g t d → f < 6 → p ≤ 14 → g 14 d = nI f → g 15 d = nI p → (pc = nI (15 * f + p) ∨ (pc = -1 ∧ p = 14)) → ∃ g' t' pc', f_M_leaveEndedFunctions_0 n1 g = some ((), g') ∧ f_N_unwound_2 n2 t pc = some (pc', t') ∧ q_Rz g' t' ∧ q_Rz g' t ∧ g' 22 0 = g 22 0 ∧ q_MA g' t' pc' := by
  intro d
  induction d with
  | zero =>
    intro hd n1 n2 h1 h2 g t pc f p hr e21 e29 hfr hf hp e14 e15 hpc
    obtain ⟨n1, rfl⟩ : ∃ k, n1 = k + 2 := ⟨n1 - 2, by omega⟩
    obtain ⟨n2, rfl⟩ : ∃ k, n2 = k + 2 := ⟨n2 - 2, by omega⟩
    obtain ⟨q1, m, hm, q2, q3⟩ := hr.1.1 f hf
    have hl : f_P_length g (nI f) = some (nI m, g) := by unfold f_P_length; rw [qs_in_ok (vp_in_nI hf (by decide)), nI_clamp (by omega), q2]
    have k0 : (nI 0).toNatClampNeg = 0 := nI_clamp (by omega)
    rw [f_M_leaveEndedFunctions_0, f_N_unwound_2, e21, e29, if_neg (nI_pos (by omega)), qs_in_ok (vp_in_nI (by omega) (by decide)), qs_in_ok (vp_in_nI (by omega) (by decide)), k0, e14, e15, qs_bn_of hl, if_pos (show nI 0 ≤ 0 by decide)]
    unfold f_N_unwound_52
    by_cases c : p < m
    · have hpc : pc = nI (15 * f + p) := by
        rcases hpc with e | ⟨-, e⟩
        · exact e
        · omega
      subst hpc
      rw [if_pos (nI_lt c (by omega)), if_neg (nI_pos (by omega)), div15 hf hp, rem15 hp, qs_in_ok (vp_in_nI hf (by decide)), nI_clamp (by omega), q1, q2, if_neg (nI_ge c (by omega))]
      exact ⟨g, t, _, rfl, rfl, hr, hr, rfl, Or.inr ⟨0, f, p, m, by omega, e21, e29, hfr, hf, e14, e15, rfl, q2, hm, c⟩⟩
    · rw [if_neg (nI_nlt (by omega) (by omega)), qs_st_of, f_M_leaveEndedFunctions_0, e21, if_pos (show qs_i g 21 (nI 0 - 1) 21 0 < 0 from (by decide : nI 0 - 1 < 0))]
      refine ⟨_, t, -1, rfl, ?_, hr, hr, rfl, Or.inl ⟨rfl, rfl⟩⟩
      rcases hpc with e | ⟨e, -⟩
      · subst e
        rw [if_neg (nI_pos (by omega)), div15 hf hp, rem15 hp, qs_in_ok (vp_in_nI hf (by decide)), nI_clamp (by omega), q1, q2, if_pos (nI_le (by omega) (by omega))]
      · subst e
        rw [if_pos (by decide)]
  | succ d ih =>
    intro hd n1 n2 h1 h2 g t pc f p hr e21 e29 hfr hf hp e14 e15 hpc
    obtain ⟨n1, rfl⟩ : ∃ k, n1 = k + 1 := ⟨n1 - 1, by omega⟩
    obtain ⟨n2, rfl⟩ : ∃ k, n2 = k + 1 := ⟨n2 - 1, by omega⟩
    obtain ⟨q1, m, hm, q2, q3⟩ := hr.1.1 f hf
    have hl : f_P_length g (nI f) = some (nI m, g) := by unfold f_P_length; rw [qs_in_ok (vp_in_nI hf (by decide)), nI_clamp (by omega), q2]
    have kd : (nI (d + 1)).toNatClampNeg = d + 1 := nI_clamp (by omega)
    rw [f_M_leaveEndedFunctions_0, f_N_unwound_2, e21, e29, if_neg (nI_pos (by omega)), qs_in_ok (vp_in_nI hd (by decide)), qs_in_ok (vp_in_nI hd (by decide)), kd, e14, e15, qs_bn_of hl, if_neg (nI_nle (by omega) (by omega))]
    by_cases c : p < m
    · have hpc : pc = nI (15 * f + p) := by
        rcases hpc with e | ⟨-, e⟩
        · exact e
        · omega
      subst hpc
      unfold f_N_unwound_52
      rw [if_pos (nI_lt c (by omega)), if_neg (nI_pos (by omega)), div15 hf hp, rem15 hp, qs_in_ok (vp_in_nI hf (by decide)), nI_clamp (by omega), q1, q2, if_pos (nI_lt c (by omega)), if_neg (nI_pos (by omega)), qs_in_ok (vp_in_nI hf (by decide)), if_neg (nI_ge c (by omega))]
      exact ⟨g, t, _, rfl, rfl, hr, hr, rfl, Or.inr ⟨d + 1, f, p, m, by omega, e21, e29, hfr, hf, e14, e15, rfl, q2, hm, c⟩⟩
    · obtain ⟨f', p', hf', hp', a14, a15, a12⟩ := hfr d (by omega)
      have hu : f_N_unwound_29 (fun g x2 => f_N_unwound_2 n2 g x2) t = f_N_unwound_2 n2 (qm_i t 29 (nI d)) (nI (15 * f' + p')) := by
        unfold f_N_unwound_29
        rw [e29, nI_pred, qs_st_of]
        show qs_in (nI d) 6 (f_N_unwound_2 n2 (qm_i t 29 (nI d)) (t.1 12 (nI d).toNatClampNeg)) = _
        rw [qs_in_ok (vp_in_nI (by omega) (by decide)), nI_clamp (by omega), a12]
      obtain ⟨g', t', pc', w1, w2, w3, w4, w5, w6⟩ := ih (by omega) n1 n2 (by omega) (by omega) (qs_i g 21 (nI d)) (qm_i t 29 (nI d)) (nI (15 * f' + p')) f' p' hr rfl rfl (fun i hi => hfr i (by omega)) hf' hp' a14 a15 (Or.inl rfl)
      refine ⟨g', t', pc', ?_, ?_, w3, w4, w5, w6⟩
      · rw [if_neg (nI_nlt (by omega) (by omega)), qs_st_of, e21, nI_pred]
        exact w1
      · rcases hpc with e | ⟨e, -⟩
        · subst e
          rw [if_neg (nI_pos (by omega)), div15 hf hp, rem15 hp, qs_in_ok (vp_in_nI hf (by decide)), nI_clamp (by omega), q1, q2, if_neg (nI_nlt (by omega) (by omega)), hu]
          exact w2
        · subst e
          rw [if_pos (by decide), hu]
          exact w2
theorem runaway {g : Sg} {t : Sm} (h : q_Rz g t) : q_Rz (qs_i g 25 (g 25 0 + 1)) (qm_i t 24 (t.1 24 0 + 1)) := by
  obtain ⟨h1, h2, h3, h4, h5, h6, h7⟩ := h.1.2.2.2.2.2
  refine ⟨⟨h.1.1, h.1.2.1, h.1.2.2.1, h.1.2.2.2.1, h.1.2.2.2.2.1, h1, h2, h3, h4, ?_, h6, h7⟩, h.2⟩
  show t.1 24 0 + 1 = g 25 0 + 1
  rw [h5]
theorem step_is {g : Sg} {d f p : Nat} (hd : d < 6) (hf : f < 6) (hp : p < 14) (e21 : g 21 0 = nI d) (e14 : g 14 d = nI f) (e15 : g 15 d = nI p) : f_M_step g = M_body (qs_a g 15 d (nI (p + 1))) (g 11 (4 * (14 * f + p))) (g 11 (4 * (14 * f + p) + 1)) (g 11 (4 * (14 * f + p) + 2)) (g 11 (4 * (14 * f + p) + 3)) := by
  have i0 : (nI f * 14 + nI p) * 4 = nI (4 * (14 * f + p)) := by
    rw [show (14 : Int32) = nI 14 from rfl, show (4 : Int32) = nI 4 from rfl, pk_mul, nI_add, pk_mul]
    exact congrArg nI (by omega)
  have i2 : nI (4 * (14 * f + p)) + 2 = nI (4 * (14 * f + p) + 2) := by rw [show (2 : Int32) = nI 2 from rfl, nI_add]
  have i3 : nI (4 * (14 * f + p)) + 3 = nI (4 * (14 * f + p) + 3) := by rw [show (3 : Int32) = nI 3 from rfl, nI_add]
  unfold f_M_step
  rw [e21, nI_clamp (n := d) (by omega), e14, e15, qs_in_ok (vp_in_nI hd (by decide)), qs_in_ok (vp_in_nI hd (by decide)), qs_bn_of (show f_P_firstPart g (nI f) (nI p) = some (nI (4 * (14 * f + p)), g) by unfold f_P_firstPart; rw [i0])]
  rw [nI_1, i2, i3, nI_clamp (n := 4 * (14 * f + p)) (by omega), nI_clamp (n := 4 * (14 * f + p) + 1) (by omega), nI_clamp (n := 4 * (14 * f + p) + 2) (by omega), nI_clamp (n := 4 * (14 * f + p) + 3) (by omega), e21, nI_clamp (n := d) (by omega), e15, nI_1]
  rw [qs_in_ok (vp_in_nI (n := 4 * (14 * f + p)) (by omega) (by decide)), qs_in_ok (vp_in_nI (n := 4 * (14 * f + p) + 1) (by omega) (by decide)), qs_in_ok (vp_in_nI (n := 4 * (14 * f + p) + 2) (by omega) (by decide)), qs_in_ok (vp_in_nI (n := 4 * (14 * f + p) + 3) (by omega) (by decide)), qs_in_ok (vp_in_nI hd (by decide)), qs_in_ok (vp_in_nI hd (by decide)), qs_st_of]
  rfl
def N_body (n : Nat) (t : Sm) (x2 : Int32) (f p : Nat) (o a b : Int32) : Option (Int32 × Sm) :=
  if o = 9 then qs_in a 24 (if lg_cmp (t.2 11 a.toNatClampNeg) 0 = 0 then f_N_instructions_231 (fun g x2 x3 => f_N_instructions_16 n g x2 x3) t (x2 + 1) (15 * nI f + b) else f_N_instructions_231 (fun g x2 x3 => f_N_instructions_16 n g x2 x3) t (x2 + 1) (nI (15 * f + p + 1)))
  else if o = 10 then f_N_instructions_231 (fun g x2 x3 => f_N_instructions_16 n g x2 x3) t (x2 + 1) (15 * nI f + b)
  else if o = 11 then (if t.1 29 0 = 5 then qs_st (qm_i t 24 (t.1 24 0 + 1)) fun u19 => some (x2 + 1, u19) else qs_in (t.1 29 0) 6 (qs_st (qm_a t 12 (t.1 29 0).toNatClampNeg (nI (15 * f + p + 1))) fun u16 => qs_st (qm_i u16 29 (u16.1 29 0 + 1)) fun u17 => f_N_instructions_231 (fun g x2 x3 => f_N_instructions_16 n g x2 x3) u17 (x2 + 1) (15 * a)))
  else if o = 16 then f_N_instructions_231 (fun g x2 x3 => f_N_instructions_16 n g x2 x3) t (x2 + 1) (-1)
  else qs_bn (f_N_instruction t (nI (14 * f + p))) fun _ u => f_N_instructions_231 (fun g x2 x3 => f_N_instructions_16 n g x2 x3) u (x2 + 1) (nI (15 * f + p + 1))
theorem ref_step {t : Sm} {n f p : Nat} {x2 o a b : Int32} (hf : f < 6) (hp : p < 14) (hx : ¬ x2 = 60) (e6 : t.1 6 (14 * f + p) = o) (e7 : t.1 7 (14 * f + p) = a) (e8 : t.1 8 (14 * f + p) = b) : f_N_instructions_16 (n + 1) t x2 (nI (15 * f + p)) = N_body n t x2 f p o a b := by
  have ia : 14 * nI f + nI p = nI (14 * f + p) := by rw [show (14 : Int32) = nI 14 from rfl, pk_mul, nI_add]
  have hin : vp_in (nI (14 * f + p)) 84 := vp_in_nI (by omega) (by decide)
  rw [f_N_instructions_16, if_neg (nI_pos (by omega)), if_neg hx, div15 hf (by omega), rem15 (by omega), ia, nI_clamp (n := 14 * f + p) (by omega), e6, e7, e8, nI_1, qs_in_ok hin, qs_in_ok hin]
  unfold N_body
  by_cases c9 : o = 9
  · rw [if_pos c9, if_pos c9, qs_in_ok hin]
  rw [if_neg c9, if_neg c9]
  by_cases c10 : o = 10
  · rw [if_pos c10, if_pos c10]
  rw [if_neg c10, if_neg c10]
  by_cases c11 : o = 11
  · rw [if_pos c11, if_pos c11]
    by_cases c : t.1 29 0 = 5
    · rw [if_pos c, if_pos c]
    · rw [if_neg c, if_neg c, qs_st_of, qs_st_of, qs_st_of, qs_st_of, qs_in_ok hin]
      rw [show (qm_i (qm_a t 12 (t.1 29 0).toNatClampNeg (nI (15 * f + p + 1))) 29 ((qm_a t 12 (t.1 29 0).toNatClampNeg (nI (15 * f + p + 1))).1 29 0 + 1)).1 7 (14 * f + p) = a from e7]
  rw [if_neg c11, if_neg c11]
  by_cases c16 : o = 16
  · rw [if_pos c16, if_neg (by rw [c16]; decide), if_neg (by rw [c16]; decide), if_neg (by rw [c16]; decide), if_neg (by rw [c16]; decide)]
  · by_cases c12 : o = 12
    · rw [if_neg c16, if_pos c12]
    rw [if_neg c12]
    by_cases c13 : o = 13
    · rw [if_neg c16, if_pos c13]
    rw [if_neg c13]
    by_cases c14 : o = 14
    · rw [if_neg c16, if_pos c14]
    rw [if_neg c14]
    by_cases c15 : o = 15
    · rw [if_neg c16, if_pos c15]
    rw [if_neg c15, if_neg c16]
theorem n231 {n : Nat} {t : Sm} {x pc : Int32} {r : Int32} {u : Sm} (h : f_N_unwound_2 200 t pc = some (r, u)) : f_N_instructions_231 (fun g x2 x3 => f_N_instructions_16 n g x2 x3) t x pc = f_N_instructions_16 n u x r := by
  unfold f_N_instructions_231 f_N_unwound
  rw [qs_bn_of h]
theorem perf_78 (g : Sg) (x : Int32) : f_M_perform_78 g x = some (x, qs_i g 25 (g 25 0 + 1)) := rfl
theorem too_deep {n : Nat} {g : Sg} {x : Int32} (h : g 22 0 = 1) : f_M_perform_30 (n + 1) g x = some (x, qs_i g 25 (g 25 0 + 1)) := by
  have k : f_M_perform_64 g x = some (x, qs_i g 25 (g 25 0 + 1)) := by
    unfold f_M_perform_64
    by_cases c : 0 ≤ g 21 0
    · rw [if_pos c, perf_78]
    · rw [if_neg c, if_neg (by rw [h]; decide), perf_78]
  rw [f_M_perform_30, k]
  by_cases c1 : 60 ≤ x
  · rw [if_pos c1]
  by_cases c2 : g 21 0 < 0
  · rw [if_neg c1, if_pos c2]
  · rw [if_neg c1, if_neg c2, if_neg (by rw [h]; decide)]
theorem fr_upd {g : Sg} {t : Sm} {d : Nat} (h : q_FR g t d) (x : Int32) : q_FR (qs_a g 15 d x) t d := fun i hi => by
  obtain ⟨f', p', a1, a2, a3, a4, a5⟩ := h i hi
  refine ⟨f', p', a1, a2, a3, ?_, a5⟩
  show upd (g 15) d x i = nI p'
  rw [pk_un (by omega)]
  exact a4
theorem fr_kp {g u : Sg} {t v : Sm} {d : Nat} (h : q_FR g t d) (k : q_Kp g u t v) : q_FR u v d := fun i hi => by
  obtain ⟨k1, k2, k3, k4, k5, k6⟩ := k
  rw [k1, k2, k5]
  exact h i hi
theorem ix15 (f p : Nat) : 15 * nI f + nI p = nI (15 * f + p) := by rw [show (15 : Int32) = nI 15 from rfl, pk_mul, nI_add]
theorem perf_loop : ∀ k c n1 n2 : Nat, c + k = 60 → k + 1 < n1 → k + 1 < n2 → ∀ (g : Sg) (t : Sm) (pc : Int32), q_Rz g t → g 22 0 = 0 → q_MA g t pc → ∃ r u v, f_M_perform_30 n1 g (nI c) = some (r, u) ∧ f_N_instructions_16 n2 t (nI c) pc = some (r, v) ∧ q_Rz u v ∧ 0 ≤ r.toInt := by
  intro k
  induction k with
  | zero =>
    intro c n1 n2 hc h1 h2 g t pc hr h22 hma
    obtain ⟨n1, rfl⟩ : ∃ k, n1 = k + 1 := ⟨n1 - 1, by omega⟩
    obtain ⟨n2, rfl⟩ : ∃ k, n2 = k + 1 := ⟨n2 - 1, by omega⟩
    have hc : c = 60 := by omega
    subst hc
    rw [f_M_perform_30, f_N_instructions_16, if_pos (show (60 : Int32) ≤ nI 60 by decide)]
    unfold f_M_perform_64
    rcases hma with ⟨e1, e2⟩ | ⟨d, f, p, m, hd, e21, e29, hfr, hf, e14, e15, epc, e12, hm, hp⟩
    · subst e2
      rw [e1, if_neg (by decide), if_pos h22, if_pos (by decide)]
      exact ⟨_, g, t, rfl, rfl, hr, by decide⟩
    · subst epc
      rw [e21, if_pos (nI_pos' (by omega)), if_neg (nI_pos (by omega)), if_pos (show nI 60 = 60 from rfl), perf_78, qs_st_of]
      exact ⟨_, _, _, rfl, rfl, runaway hr, by decide⟩
  | succ k ih =>
    intro c n1 n2 hc h1 h2 g t pc hr h22 hma
    obtain ⟨n1, rfl⟩ : ∃ k, n1 = k + 1 := ⟨n1 - 1, by omega⟩
    obtain ⟨n2, rfl⟩ : ∃ k, n2 = k + 1 := ⟨n2 - 1, by omega⟩
    rcases hma with ⟨e1, e2⟩ | ⟨d, f, p, m, hd, e21, e29, hfr, hf, e14, e15, epc, e12, hm, hp⟩
    · subst e2
      rw [f_M_perform_30, f_N_instructions_16, if_neg (L_ge 60 60 (by omega)), e1, if_pos (by decide), if_pos (by decide)]
      unfold f_M_perform_64
      rw [e1, if_neg (by decide), if_pos h22]
      exact ⟨_, g, t, rfl, rfl, hr, by rw [nI_toInt (by omega)]; omega⟩
    · subst epc
      obtain ⟨q1, m', hm', q2, q3⟩ := hr.1.1 f hf
      have hmm : m' = m := (nI_eq (by omega) (by omega)).mp (q2.symm.trans e12)
      subst hmm
      obtain ⟨o6, o7, o8, o9, os⟩ := q3 p hp
      have hs := sound_snd os
      have hcl : f_M_perform_30 (n1 + 1) g (nI c) = qs_bn (M_body (qs_a g 15 d (nI (p + 1))) (t.1 6 (14 * f + p)) (t.1 7 (14 * f + p)) (t.1 8 (14 * f + p)) (t.1 9 (14 * f + p))) fun _ u13 => qs_bn (f_M_leaveEndedFunctions_0 200 u13) fun _ u15 => f_M_perform_30 n1 u15 (nI (c + 1)) := by
        rw [f_M_perform_30, if_neg (L_ge 60 60 (by omega)), e21, if_neg (nI_pos (by omega)), if_pos h22, step_is hd hf (by omega) e21 e14 e15, nI_1, o6, o7, o8, o9]
        rfl
      rw [hcl, ref_step hf (by omega) (L_ne 60 60 (by omega) (by omega)) rfl rfl rfl]
      have hr1 : q_Rz (qs_a g 15 d (nI (p + 1))) t := hr
      have fr1 : q_FR (qs_a g 15 d (nI (p + 1))) t d := fr_upd hfr _
      have go : ∀ (d' f' : Nat) (u : Sg) (v : Sm) (p' : Nat) (pc' : Int32), d' < 6 → f' < 6 → q_Rz u v → u 21 0 = nI d' → u 22 0 = 0 → v.1 29 0 = nI d' → q_FR u v d' → p' ≤ 14 → u 14 d' = nI f' → u 15 d' = nI p' → (pc' = nI (15 * f' + p') ∨ (pc' = -1 ∧ p' = 14)) → ∃ r u' v', (qs_bn (f_M_leaveEndedFunctions_0 200 u) fun _ u15 => f_M_perform_30 n1 u15 (nI (c + 1))) = some (r, u') ∧ f_N_instructions_231 (fun g x2 x3 => f_N_instructions_16 n2 g x2 x3) v (nI c + 1) pc' = some (r, v') ∧ q_Rz u' v' ∧ 0 ≤ r.toInt := by
        intro d' f' u v p' pc' hd' hf' w1 w2 w3 w4 w5 w6 w7 w8 w9
        obtain ⟨g', t', pc2, y1, y2, y3, y4, y5, y6⟩ := unw d' hd' 200 200 (by omega) (by omega) u v pc' f' p' w1 w2 w4 w5 hf' w6 w7 w8 w9
        rw [qs_bn_of y1, n231 y2, nI_1]
        exact ih (c + 1) n1 n2 (by omega) (by omega) (by omega) g' t' pc2 y3 (y5.trans w3) y6
      have p15 : ∀ x : Int32, (qs_a g 15 d x) 15 d = x := fun x => pk_us
      have e21' : (qs_a g 15 d (nI (p + 1))) 21 0 = nI d := e21
      have hdd : (nI d).toNatClampNeg = d := nI_clamp (by omega)
      generalize eo : t.1 6 (14 * f + p) = o at hs ⊢
      generalize ea : t.1 7 (14 * f + p) = a at hs ⊢
      generalize eb : t.1 8 (14 * f + p) = b at hs ⊢
      generalize ec : t.1 9 (14 * f + p) = cc at hs ⊢
      by_cases c9 : o = 9
      · subst c9
        obtain ⟨i1, i2⟩ := snd_e9 hs
        obtain ⟨i, hi, rfl⟩ := i1
        obtain ⟨j, hj, rfl⟩ := i2
        unfold N_body M_body
        rw [if_neg (show ¬ (9 : Int32) = 8 by decide), if_pos rfl, if_pos rfl, qs_in_ok (vp_in_nI hi (by decide)), qs_in_ok (vp_in_nI hi (by decide)), nI_clamp (by omega), glob_at hr hi, ix15]
        by_cases z : g 13 i = 0
        · rw [if_pos (show (qs_a g 15 d (nI (p + 1))) 13 i = 0 from z), if_pos ((lg_cmp_eq _ _).mpr (by rw [z]; rfl)), e21', qs_in_ok (vp_in_nI hd (by decide)), qs_st_of, hdd]
          exact go d f _ t j _ hd hf hr e21 h22 e29 (fr_upd fr1 _) (by omega) e14 pk_us (Or.inl rfl)
        · rw [if_neg (show ¬ (qs_a g 15 d (nI (p + 1))) 13 i = 0 from z), if_neg (show ¬ lg_cmp (g 13 i).toInt64 0 = 0 from fun q => z (t64_inj (y := 0) ((lg_cmp_eq _ _).mp q)))]
          exact go d f _ t (p + 1) _ hd hf hr e21 h22 e29 fr1 (by omega) e14 pk_us (Or.inl rfl)
      by_cases c10 : o = 10
      · subst c10
        have i2 := snd_e10 hs
        obtain ⟨j, hj, rfl⟩ := i2
        unfold N_body M_body
        rw [if_neg (show ¬ (10 : Int32) = 8 by decide), if_neg (show ¬ (10 : Int32) = 9 by decide), if_neg (show ¬ (10 : Int32) = 9 by decide), if_pos rfl, if_pos rfl, ix15, e21', qs_in_ok (vp_in_nI hd (by decide)), qs_st_of, hdd]
        exact go d f _ t j _ hd hf hr e21 h22 e29 (fr_upd fr1 _) (by omega) e14 pk_us (Or.inl rfl)
      by_cases c11 : o = 11
      · subst c11
        have i1 := snd_e11 hs
        obtain ⟨i, hi, rfl⟩ := i1
        unfold N_body M_body
        rw [if_neg (show ¬ (11 : Int32) = 8 by decide), if_neg (show ¬ (11 : Int32) = 9 by decide), if_neg (show ¬ (11 : Int32) = 9 by decide), if_neg (show ¬ (11 : Int32) = 10 by decide), if_neg (show ¬ (11 : Int32) = 10 by decide), if_pos rfl, if_pos rfl]
        unfold f_M_enter
        rw [e21', e29]
        by_cases z : d = 5
        · subst z
          rw [if_pos (show nI 5 = 5 from rfl), if_pos (show nI 5 = 5 from rfl)]
          obtain ⟨n1, rfl⟩ : ∃ k, n1 = k + 1 := ⟨n1 - 1, by omega⟩
          obtain ⟨g', t', pc2, y1, y2, y3, y4, y5, y6⟩ := unw 5 hd 200 200 (by omega) (by omega) (qs_i (qs_a g 15 5 (nI (p + 1))) 22 1) t (nI (15 * f + (p + 1))) f (p + 1) hr e21 e29 fr1 hf (by omega) e14 (show (qs_a g 15 5 (nI (p + 1))) 15 5 = nI (p + 1) from p15 _) (Or.inl rfl)
          have y5 : g' 22 0 = 1 := y5
          refine ⟨nI (c + 1), _, _, ?_, ?_, runaway y4, by rw [nI_toInt (by omega)]; omega⟩
          · rw [qs_st_of]
            show (qs_bn (f_M_leaveEndedFunctions_0 200 (qs_i (qs_a g 15 5 (nI (p + 1))) 22 1)) fun _ u15 => f_M_perform_30 (n1 + 1) u15 (nI (c + 1))) = _
            rw [qs_bn_of y1, too_deep y5]
          · rw [qs_st_of, nI_1]
        · rw [if_neg (L_ne 5 5 z (by omega)), if_neg (L_ne 5 5 z (by omega)), nI_1]
          have hd1 : d + 1 < 6 := by omega
          have hcls : (qs_st (qs_i (qs_a g 15 d (nI (p + 1))) 21 (nI (d + 1))) fun u2 => qs_in (u2 21 0) 6 (qs_st (qs_a u2 14 (u2 21 0).toNatClampNeg (nI i)) fun u4 => qs_in (u4 21 0) 6 (qs_st (qs_a u4 15 (u4 21 0).toNatClampNeg 0) fun u6 => some ((), u6)))) = some ((), qs_a (qs_a (qs_i (qs_a g 15 d (nI (p + 1))) 21 (nI (d + 1))) 14 (d + 1) (nI i)) 15 (d + 1) 0) := by
            show qs_in (nI (d + 1)) 6 (qs_in (nI (d + 1)) 6 (some ((), qs_a (qs_a (qs_i (qs_a g 15 d (nI (p + 1))) 21 (nI (d + 1))) 14 (nI (d + 1)).toNatClampNeg (nI i)) 15 (nI (d + 1)).toNatClampNeg 0))) = _
            rw [qs_in_ok (vp_in_nI hd1 (by decide)), qs_in_ok (vp_in_nI hd1 (by decide)), nI_clamp (by omega)]
          have href : (qs_in (nI d) 6 (qs_st (qm_a t 12 (nI d).toNatClampNeg (nI (15 * f + p + 1))) fun u16 => qs_st (qm_i u16 29 (u16.1 29 0 + 1)) fun u17 => f_N_instructions_231 (fun g x2 x3 => f_N_instructions_16 n2 g x2 x3) u17 (nI c + 1) (15 * nI i))) = f_N_instructions_231 (fun g x2 x3 => f_N_instructions_16 n2 g x2 x3) (qm_i (qm_a t 12 d (nI (15 * f + p + 1))) 29 (nI (d + 1))) (nI c + 1) (nI (15 * i + 0)) := by
            rw [qs_in_ok (vp_in_nI hd (by decide)), hdd, qs_st_of, qs_st_of, show (qm_a t 12 d (nI (15 * f + p + 1))).1 29 0 = nI d from e29, nI_1, show (15 : Int32) = nI 15 from rfl, pk_mul]
            rfl
          rw [hcls, href]
          refine go (d + 1) i _ (qm_i (qm_a t 12 d (nI (15 * f + p + 1))) 29 (nI (d + 1))) 0 _ hd1 hi hr rfl h22 rfl ?_ (by omega) pk_us pk_us (Or.inl rfl)
          intro j hj
          show ∃ f' p' : Nat, f' < 6 ∧ p' ≤ 14 ∧ upd (g 14) (d + 1) (nI i) j = nI f' ∧ upd (upd (g 15) d (nI (p + 1))) (d + 1) 0 j = nI p' ∧ upd (t.1 12) d (nI (15 * f + p + 1)) j = nI (15 * f' + p')
          rw [pk_un (show j ≠ d + 1 by omega), pk_un (show j ≠ d + 1 by omega)]
          by_cases y : j = d
          · subst y
            rw [pk_us, pk_us]
            exact ⟨f, p + 1, hf, by omega, e14, rfl, rfl⟩
          · rw [pk_un y, pk_un y]
            exact hfr j (by omega)
      by_cases c16 : o = 16
      · subst c16
        unfold N_body M_body
        rw [if_neg (show ¬ (16 : Int32) = 8 by decide), if_neg (show ¬ (16 : Int32) = 9 by decide), if_neg (show ¬ (16 : Int32) = 9 by decide), if_neg (show ¬ (16 : Int32) = 10 by decide), if_neg (show ¬ (16 : Int32) = 10 by decide), if_neg (show ¬ (16 : Int32) = 11 by decide), if_neg (show ¬ (16 : Int32) = 11 by decide), if_neg (show ¬ (16 : Int32) = 12 by decide), if_neg (show ¬ (16 : Int32) = 13 by decide), if_neg (show ¬ (16 : Int32) = 14 by decide), if_neg (show ¬ (16 : Int32) = 15 by decide), if_pos rfl, if_pos rfl, e21', qs_in_ok (vp_in_nI hd (by decide)), qs_st_of, hdd]
        exact go d f _ t 14 _ hd hf hr e21 h22 e29 (fr_upd fr1 _) (by omega) e14 pk_us (Or.inr ⟨rfl, rfl⟩)
      obtain ⟨u, v, w1, w2, w3, w4⟩ := op_eq hr1 (n := 14 * f + p) (by omega) hs eo ea eb ec c9 c10 c11 c16
      unfold N_body
      rw [if_neg c9, if_neg c10, if_neg c11, if_neg c16, qs_bn_of w1, qs_bn_of w2]
      have w4' := w4
      obtain ⟨k1, k2, k3, k4, k5, k6⟩ := w4
      exact go d f u v (p + 1) _ hd hf w3 (by rw [k3]; exact e21) (by rw [k4]; exact h22) (by rw [k6]; exact e29) (fr_kp fr1 w4') (by omega) (by rw [k1]; exact e14) (by rw [k2]; exact pk_us) (Or.inl rfl)
theorem perform_eq {g : Sg} {t : Sm} (h : q_Rz g t) {f : Nat} (hf : f < 6) : ∃ r u v, f_M_perform g (nI f) = some (r, u) ∧ f_N_instructions t (nI f) = some (r, v) ∧ q_Rz u v ∧ 0 ≤ r.toInt := by
  obtain ⟨g', t', pc, y1, y2, y3, y4, y5, y6⟩ := unw 0 (by omega) 200 200 (by omega) (by omega) (qs_a (qs_a (qs_i (qs_i g 21 0) 22 0) 14 0 (nI f)) 15 0 0) (qm_i t 29 0) (nI (15 * f + 0)) f 0 h rfl rfl (fun i hi => absurd hi (Nat.not_lt_zero i)) hf (by omega) (show upd (g 14) 0 (nI f) 0 = nI f from pk_us) (show upd (g 15) 0 0 0 = nI 0 from pk_us) (Or.inl rfl)
  have y5 : g' 22 0 = 0 := y5
  obtain ⟨r, u, v, z1, z2, z3, z4⟩ := perf_loop 60 0 200 200 (by omega) (by omega) (by omega) g' t' pc y3 y5 y6
  refine ⟨r, u, v, ?_, ?_, z3, z4⟩
  · have e : f_M_perform g (nI f) = qs_bn (f_M_leaveEndedFunctions_0 200 (qs_a (qs_a (qs_i (qs_i g 21 0) 22 0) 14 0 (nI f)) 15 0 0)) fun _ u8 => f_M_perform_30 200 u8 0 := rfl
    rw [e, qs_bn_of y1]
    exact z1
  · have e : f_N_instructions t (nI f) = qs_bn (f_N_unwound_2 200 (qm_i t 29 0) (15 * nI f)) fun r2 u3 => f_N_instructions_16 200 u3 0 r2 := rfl
    rw [e, show 15 * nI f = nI (15 * f + 0) by rw [show (15 : Int32) = nI 15 from rfl, pk_mul]; rfl, qs_bn_of y2]
    exact z2
theorem runs_up {g : Sg} {t : Sm} (h : q_Rz g t) : q_Rz (qs_i g 26 (g 26 0 + 1)) (qm_i t 25 (t.1 25 0 + 1)) := by
  obtain ⟨h1, h2, h3, h4, h5, h6, h7⟩ := h.1.2.2.2.2.2
  refine ⟨⟨h.1.1, h.1.2.1, h.1.2.2.1, h.1.2.2.2.1, h.1.2.2.2.2.1, h1, h2, h3, h4, h5, ?_, h7⟩, h.2⟩
  show t.1 25 0 + 1 = g 26 0 + 1
  rw [h6]
theorem start_no {g : Sg} {a1 : Int32} (h : f_Q_isBelow a1 6 = some 0) (a2 a3 : Int32) : f_M_start g a1 a2 a3 = some (0, g) := by
  unfold f_M_start
  rw [qs_pb_of h, if_pos rfl]
theorem start_eq {g : Sg} {t : Sm} (h : q_Rz g t) {f : Nat} (hf : f < 6) {a2 a3 : Int32} (h1 : -1 ≤ a2.toInt) (h2 : a2.toInt ≤ 11) (h3 : -1 ≤ a3.toInt) (h4 : a3.toInt ≤ 11) : ∃ r u v, f_M_start g (nI f) a2 a3 = some (r, u) ∧ f_N_perform t (nI f) a2.toInt64 a3.toInt64 1 = some (r, v) ∧ q_Rz u v := by
  have m2 := mul8 (a := a2) (by omega) (by omega)
  have m3 := mul8 (a := a3) (by omega) (by omega)
  have r1 := glob_set h.1 (j := 20) m2.2
  have r2 := glob_set r1 (j := 21) m3.2
  have r3 := glob_set r2 (j := 22) h.1.2.2.2.2.2.2.1
  have tm : t.2 22 0 = (g 23 0).toInt64 := h.1.2.2.2.2.2.1
  obtain ⟨r, u, v, z1, z2, z3, z4⟩ := perform_eq ⟨r3, h.2⟩ hf
  have s1 := glob_set z3.1 (j := 20) (glob_num h (i := 20) (by omega))
  have s2 := glob_set s1 (j := 21) (glob_num h (i := 21) (by omega))
  have hb : f_Q_isBelow (nI f) 6 = some 1 := by
    rcases is_below (nI f) (b := 6) (by decide) with ⟨-, n1⟩ | ⟨j, hj, ex, e1⟩
    · exact absurd rfl (n1 f hf)
    · exact e1
  have hc : f_M_start g (nI f) a2 a3 = if r ≤ 0 then some (r, qs_a (qs_a u 13 20 (g 13 20)) 13 21 (g 13 21)) else some (r, qs_i (qs_a (qs_a u 13 20 (g 13 20)) 13 21 (g 13 21)) 26 (u 26 0 + 1)) := by
    have e : f_M_start g (nI f) a2 a3 = qs_pb (f_Q_isBelow (nI f) 6) fun r1 => if r1 = 0 then some (0, g) else qs_bn (f_M_perform (qs_a (qs_a (qs_a g 13 20 (a2 * 8)) 13 21 (a3 * 8)) 13 22 (g 23 0)) (nI f)) fun r11 u12 => if r11 ≤ 0 then some (r11, qs_a (qs_a u12 13 20 (g 13 20)) 13 21 (g 13 21)) else some (r11, qs_i (qs_a (qs_a u12 13 20 (g 13 20)) 13 21 (g 13 21)) 26 (u12 26 0 + 1)) := rfl
    rw [e, qs_pb_of hb, if_neg (by decide), qs_bn_of z1]
  have hn : f_N_perform t (nI f) a2.toInt64 a3.toInt64 1 = if r ≤ 0 then some (r, qm_la (qm_la v 11 20 (g 13 20).toInt64) 11 21 (g 13 21).toInt64) else some (r, qm_la (qm_la (qm_i v 25 (v.1 25 0 + 1)) 11 20 (g 13 20).toInt64) 11 21 (g 13 21).toInt64) := by
    have e : f_N_perform t (nI f) a2.toInt64 a3.toInt64 1 = qs_bn (f_N_instructions (qm_la (qm_la (qm_la t 11 20 (8 * a2.toInt64)) 11 21 (8 * a3.toInt64)) 11 22 (t.2 22 0)) (nI f)) fun r10 u11 => if r10 ≤ 0 then some (r10, qm_la (qm_la u11 11 20 (t.2 11 20)) 11 21 (t.2 11 21)) else some (r10, qm_la (qm_la (qm_i u11 25 (u11.1 25 0 + 1)) 11 20 (t.2 11 20)) 11 21 (t.2 11 21)) := rfl
    rw [e, mul8' (by omega) (by omega), mul8' (by omega) (by omega), tm, qs_bn_of z2, glob_at h (i := 20) (by omega), glob_at h (i := 21) (by omega)]
  rw [hc, hn]
  by_cases c : r ≤ 0
  · rw [if_pos c, if_pos c]
    exact ⟨r, _, _, rfl, rfl, s2, z3.2⟩
  · rw [if_neg c, if_neg c]
    exact ⟨r, _, _, rfl, rfl, runs_up ⟨s2, z3.2⟩⟩
theorem ent_or_world (a : Int32) : (f_Q_isEntityOrWorld a = some 0 ∧ f_N_in a (-1) 11 = some 0) ∨ (f_Q_isEntityOrWorld a = some 1 ∧ f_N_in a (-1) 11 = some 1 ∧ -1 ≤ a.toInt ∧ a.toInt ≤ 11) := by
  unfold f_Q_isEntityOrWorld
  by_cases c : a = -1
  · subst c
    exact Or.inr ⟨if_pos rfl, by decide, by decide, by decide⟩
  · rw [if_neg c]
    have hne : a.toInt ≠ -1 := fun q => c (Int32.toInt_inj.mp q)
    rcases is_below a (b := 12) (by decide) with ⟨e1, n1⟩ | ⟨j, hj, ex, e1⟩
    · have e1 : f_Q_isBelow a 12 = some 0 := e1
      refine Or.inl ⟨by rw [qs_pb_of e1]; rfl, ?_⟩
      unfold f_N_in
      rcases pk_ix a (n := 12) (by decide) with q | q | ⟨j, hj, e⟩
      · have k := Int32.lt_iff_toInt_lt.mp q
        rw [show (0 : Int32).toInt = 0 from rfl] at k
        rw [if_pos (Int32.lt_iff_toInt_lt.mpr (by rw [show (-1 : Int32).toInt = -1 from rfl]; omega))]
      · have k := Int32.le_iff_toInt_le.mp q
        rw [nI_toInt (by decide)] at k
        by_cases d : a < -1
        · rw [if_pos d]
        · rw [if_neg d, if_pos (Int32.lt_iff_toInt_lt.mpr (by rw [show (11 : Int32).toInt = 11 from rfl]; omega))]
      · exact absurd e (n1 j hj)
    · have e1 : f_Q_isBelow a 12 = some 1 := e1
      have k : a.toInt = j := by rw [ex]; exact nI_toInt (by omega)
      refine Or.inr ⟨by rw [qs_pb_of e1]; rfl, ?_, by omega, by omega⟩
      unfold f_N_in
      rw [if_neg (fun q => by
        have k2 := Int32.lt_iff_toInt_lt.mp q
        rw [show (-1 : Int32).toInt = -1 from rfl] at k2
        omega), if_neg (fun q => by
        have k2 := Int32.lt_iff_toInt_lt.mp q
        rw [show (11 : Int32).toInt = 11 from rfl] at k2
        omega)]
theorem s_run : sm_run Rel := by
  intro g t h x1 x2 x3
  have h0 : q_Rz g (qm_i t 20 0) := ⟨h, rfl⟩
  rcases is_below x1 (b := 6) (by decide) with ⟨e1, n1⟩ | ⟨f, hf, ex, e1⟩
  · have e1 : f_Q_isBelow x1 6 = some 0 := e1
    have e2 : f_N_in x1 0 5 = some 0 := (below6 x1).symm.trans e1
    refine ⟨.inl ("java/lang/IllegalArgumentException", g), 0, qm_i (qm_i t 20 0) 20 1, ?_, ?_, rfl, (fun r u e => by cases e), h⟩
    · unfold f_Q_run; rw [qs_pb_of e1]; rfl
    · unfold f_N_run; rw [qs_st_of, qs_pb_of e2]; rfl
  have e1 : f_Q_isBelow x1 6 = some 1 := e1
  have e2 : f_N_in x1 0 5 = some 1 := (below6 x1).symm.trans e1
  rcases ent_or_world x2 with ⟨a1, a2⟩ | ⟨a1, a2, a3, a4⟩
  · refine ⟨.inl ("java/lang/IllegalArgumentException", g), 0, qm_i (qm_i t 20 0) 20 1, ?_, ?_, rfl, (fun r u e => by cases e), h⟩
    · unfold f_Q_run; rw [qs_pb_of e1, if_neg (by decide), qs_pb_of a1]; rfl
    · unfold f_N_run; rw [qs_st_of, qs_pb_of e2, if_neg (by decide), qs_pb_of a2]; rfl
  rcases ent_or_world x3 with ⟨b1, b2⟩ | ⟨b1, b2, b3, b4⟩
  · refine ⟨.inl ("java/lang/IllegalArgumentException", g), 0, qm_i (qm_i t 20 0) 20 1, ?_, ?_, rfl, (fun r u e => by cases e), h⟩
    · unfold f_Q_run; rw [qs_pb_of e1, if_neg (by decide), qs_pb_of a1, if_neg (by decide), qs_pb_of b1]; rfl
    · unfold f_N_run; rw [qs_st_of, qs_pb_of e2, if_neg (by decide), qs_pb_of a2, if_neg (by decide), qs_pb_of b2]; rfl
  subst ex
  obtain ⟨r, u, v, q1, q2, q3⟩ := start_eq h0 hf a3 a4 b3 b4
  refine ⟨.inr (r, u), r, v, ?_, ?_, q3.2, (fun r u e => by cases e; rfl), q3.1⟩
  · unfold f_Q_run
    rw [qs_pb_of e1, if_neg (by decide), qs_pb_of a1, if_neg (by decide), qs_pb_of b1, if_neg (by decide), qs_bn_of q1]
  · unfold f_N_run
    rw [qs_st_of, qs_pb_of e2, if_neg (by decide), qs_pb_of a2, if_neg (by decide), qs_pb_of b2, if_neg (by decide), qs_bn_of q2]
