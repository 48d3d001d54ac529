theorem v_eighth : FP.Core.val64 4593671619917905920 = .fin false (2 ^ 52) (-55) := by decide +kernel
theorem v_eight : FP.Core.val64 4620693217682128896 = .fin false (2 ^ 52) (-49) := by decide +kernel
theorem b64_qmin : FP.Core.b64.qmin = -1074 := by decide
theorem b64_qmax : FP.Core.b64.qmax = 971 := by decide
theorem b64_p : FP.Core.b64.p = 53 := by decide
theorem b64_tails : FP.Core.b64.tails = 2 ^ 52 := by decide
theorem d_shape {x : Int32} (hx : x.toInt ≠ 0) : ∃ s c q, FP.Core.val64 (FP.Core.i2d x) = .fin s c q ∧ 2 ^ 52 ≤ c ∧ c < 2 ^ 53 ∧ -53 < q ∧ q ≤ 960 := by
  have hw := FP.Core.i2d_int x
  have hf := FP.Core.val64_fits (FP.Core.i2d x)
  unfold FP.Core.DInt at hw
  cases e : FP.Core.val64 (FP.Core.i2d x) with
  | nan => rw [e] at hw; exact hw.elim
  | inf s => rw [e] at hw; exact hw.elim
  | fin s c q =>
    rw [e] at hw hf
    obtain ⟨f1, f2, f3, f4⟩ := hf
    rw [b64_p] at f1
    rw [b64_qmin] at f2 f4
    rw [b64_qmax] at f3
    rw [b64_tails] at f4
    have hw : FP.Core.signed s (c * 2 ^ q.toNat) = x.toInt * ((2 ^ (-q).toNat : Nat) : Int) := hw
    have habs := congrArg Int.natAbs hw
    rw [FP.Core.natAbs_signed, Int.natAbs_mul, Int.natAbs_natCast] at habs
    have h1 : 1 ≤ x.toInt.natAbs := by omega
    have hlo := x.le_toInt
    have hhi := x.toInt_lt
    have h2 : x.toInt.natAbs ≤ 2 ^ 31 := by omega
    have hq1 : -53 < q := by
      refine Int.lt_of_not_ge fun hq => ?_
      have hz : q.toNat = 0 := by omega
      rw [hz, Nat.pow_zero, Nat.mul_one] at habs
      have : 2 ^ 53 ≤ 2 ^ (-q).toNat := Nat.pow_le_pow_right (by decide) (by omega)
      have : 1 * 2 ^ (-q).toNat ≤ x.toInt.natAbs * 2 ^ (-q).toNat := Nat.mul_le_mul_right _ h1
      omega
    have hc : 2 ^ 52 ≤ c := by omega
    refine ⟨s, c, q, rfl, hc, f1, hq1, Int.le_of_not_gt fun hq => ?_⟩
    have hz : (-q).toNat = 0 := by omega
    rw [hz, Nat.pow_zero, Nat.mul_one] at habs
    have : 2 ^ 1 ≤ 2 ^ q.toNat := Nat.pow_le_pow_right (by decide) (by omega)
    have : c * 2 ^ 1 ≤ c * 2 ^ q.toNat := Nat.mul_le_mul_left _ this
    omega
theorem fit_b64 {s : Bool} {c : Nat} {q : Int} (h1 : 2 ^ 52 ≤ c) (h2 : c < 2 ^ 53) (h3 : -1074 ≤ q) (h4 : q ≤ 971) : FP.Core.fits FP.Core.b64 (.fin s c q) := by
  refine ⟨?_, ?_, ?_, Or.inr ?_⟩
  · rw [b64_p]; exact h2
  · rw [b64_qmin]; exact h3
  · rw [b64_qmax]; exact h4
  · rw [b64_tails]; exact h1
theorem mul_eighth {a : UInt64} {s : Bool} {c : Nat} {q : Int} (e : FP.Core.val64 a = .fin s c q) (h1 : 2 ^ 52 ≤ c) (h2 : c < 2 ^ 53) (h3 : -1000 ≤ q) (h4 : q ≤ 971) : FP.Core.val64 (FP.Core.dmul a 4593671619917905920) = .fin s c (q - 3) := by
  rw [FP.Core.val64_dmul, e, v_eighth]
  show FP.Core.roundRatio FP.Core.b64 (s != false) (c * 2 ^ 52) 1 (q + (-55)) = _
  rw [show (s != false) = s by cases s <;> rfl]
  refine FP.Core.roundRatio_exact FP.Core.good_b64 (by decide) (fit_b64 h1 h2 (by omega) (by omega)) ?_
  rw [show (q + -55 - (q - 3)).toNat = 0 by omega, show (q - 3 - (q + -55)).toNat = 52 by omega]
  omega
theorem mul_eight {a : UInt64} {s : Bool} {c : Nat} {q : Int} (e : FP.Core.val64 a = .fin s c q) (h1 : 2 ^ 52 ≤ c) (h2 : c < 2 ^ 53) (h3 : -1000 ≤ q) (h4 : q ≤ 968) : FP.Core.val64 (FP.Core.dmul a 4620693217682128896) = .fin s c (q + 3) := by
  rw [FP.Core.val64_dmul, e, v_eight]
  show FP.Core.roundRatio FP.Core.b64 (s != false) (c * 2 ^ 52) 1 (q + (-49)) = _
  rw [show (s != false) = s by cases s <;> rfl]
  refine FP.Core.roundRatio_exact FP.Core.good_b64 (by decide) (fit_b64 h1 h2 (by omega) (by omega)) ?_
  rw [show (q + -49 - (q + 3)).toNat = 0 by omega, show (q + 3 - (q + -49)).toNat = 52 by omega]
  omega
theorem div_eight {a : UInt64} {s : Bool} {c : Nat} {q : Int} (e : FP.Core.val64 a = .fin s c q) (h1 : 2 ^ 52 ≤ c) (h2 : c < 2 ^ 53) (h3 : -1000 ≤ q) (h4 : q ≤ 971) : FP.Core.val64 (FP.Core.ddiv a 4620693217682128896) = .fin s c (q - 3) := by
  rw [FP.Core.val64_ddiv, e, v_eight]
  show (if 2 ^ 52 = 0 then (if c = 0 then FP.Core.Datum.nan else .inf (s != false)) else FP.Core.roundRatio FP.Core.b64 (s != false) c (2 ^ 52) (q - (-49))) = _
  rw [if_neg (by decide), show (s != false) = s by cases s <;> rfl]
  refine FP.Core.roundRatio_exact FP.Core.good_b64 (by decide) (fit_b64 h1 h2 (by omega) (by omega)) ?_
  rw [show (q - -49 - (q - 3)).toNat = 52 by omega, show (q - 3 - (q - -49)).toNat = 0 by omega]
  omega
theorem zero_of {x : Int32} (h : x.toInt = 0) : x = 0 := Int32.toInt_inj.mp h
def q_ei (x : Int32) : UInt64 := FP.dmul (FP.i2d x) (4593671619917905920 : UInt64)
theorem ei_fin (x : Int32) : FP.Core.DFin (q_ei x) := by
  by_cases hx : x.toInt = 0
  · rw [zero_of hx]
    exact ⟨false, 0, -1074, by decide +kernel⟩
  · obtain ⟨s, c, q, e, h1, h2, h3, h4⟩ := d_shape hx
    exact ⟨s, c, q - 3, mul_eighth e h1 h2 (by omega) (by omega)⟩
theorem ei_div (x : Int32) : FP.ddiv (FP.i2d x) (4620693217682128896 : UInt64) = q_ei x := by
  by_cases hx : x.toInt = 0
  · rw [zero_of hx]
    decide +kernel
  · obtain ⟨s, c, q, e, h1, h2, h3, h4⟩ := d_shape hx
    have e1 := mul_eighth e h1 h2 (by omega) (by omega)
    have e2 := div_eight e h1 h2 (by omega) (by omega)
    refine FP.Core.val64_inj (by rw [e2]; exact FP.Core.Datum.noConfusion) (e2.trans e1.symm)
theorem ei_mul (x : Int32) : FP.dmul (q_ei x) (4620693217682128896 : UInt64) = FP.i2d x := by
  by_cases hx : x.toInt = 0
  · rw [zero_of hx]
    decide +kernel
  · obtain ⟨s, c, q, e, h1, h2, h3, h4⟩ := d_shape hx
    have e1 := mul_eighth e h1 h2 (by omega) (by omega)
    have e2 : FP.Core.val64 (FP.dmul (q_ei x) 4620693217682128896) = _ := mul_eight e1 h1 h2 (by omega) (by omega)
    rw [show q - 3 + 3 = q by omega] at e2
    exact FP.Core.val64_inj (by rw [e2]; exact FP.Core.Datum.noConfusion) (e2.trans e.symm)
theorem ei_zval (x : Int32) : 8 * FP.Core.zval FP.Core.b64 (FP.Core.val64 (q_ei x)) = x.toInt * (FP.Core.one64 : Int) := by
  by_cases hx : x.toInt = 0
  · rw [hx, Int.zero_mul, zero_of hx]
    decide +kernel
  · obtain ⟨s, c, q, e, h1, h2, h3, h4⟩ := d_shape hx
    have e1 : FP.Core.val64 (q_ei x) = _ := mul_eighth e h1 h2 (by omega) (by omega)
    rw [← FP.Core.DInt_zval (FP.Core.i2d_int x), e, e1]
    show 8 * FP.Core.signed s (c * 2 ^ (q - 3 - FP.Core.b64.qmin).toNat) = FP.Core.signed s (c * 2 ^ (q - FP.Core.b64.qmin).toNat)
    rw [b64_qmin, show (q - -1074).toNat = (q - 3 - -1074).toNat + 3 by omega, Nat.pow_add, ← Nat.mul_assoc, FP.Core.signed_mul s (c * 2 ^ (q - 3 - -1074).toNat)]
    omega
theorem n64_of {a : UInt64} (h : FP.Core.DFin a) : vf_n64 a := by
  have h1 := (FP.Core.fin_bits a).mp h
  show a &&& 0x7fffffffffffffff ≤ 0x7ff0000000000000
  rw [UInt64.le_iff_toNat_le, FP.Core.mask_toNat]
  rw [show (0x7ff0000000000000 : UInt64).toNat = 9218868437227405312 from rfl]
  omega
theorem qs_nan_ok {α : Type} {r : UInt64} {x : Option α} (h : vf_n64 r) : qs_nan r x = x := if_pos h
theorem s_nan : sm_nan := fun x => n64_of (ei_fin x)
theorem i2d_n64 (x : Int32) : vf_n64 (FP.i2d x) := by
  rw [show FP.i2d x = FP.Core.l2d x.toInt64 from FP.Core.i2d_l2d x]
  exact n64_of (FP.Core.l2d_fin _)
theorem fin_ne {a : UInt64} (h : FP.Core.DFin a) : FP.Core.val64 a ≠ .nan := by
  obtain ⟨s, c, q, e⟩ := h
  rw [e]
  exact FP.Core.Datum.noConfusion
theorem z_lo : FP.Core.zval FP.Core.b64 (FP.Core.val64 13893604850437980160) = -(16384 * (FP.Core.one64 : Int)) := by decide +kernel
theorem z_hi : FP.Core.zval FP.Core.b64 (FP.Core.val64 4670232813583204352) = 16384 * (FP.Core.one64 : Int) := by decide +kernel
theorem n_lo : FP.Core.val64 13893604850437980160 ≠ .nan := by decide +kernel
theorem n_hi : FP.Core.val64 4670232813583204352 ≠ .nan := by decide +kernel
theorem is_number (x : Int32) : f_Q_isNumber (q_ei x) = some 0 ∨ (f_Q_isNumber (q_ei x) = some 1 ∧ re_num x) := by
  have hz := ei_zval x
  have h1 : (0 : Int) < (FP.Core.one64 : Int) := by
    have := FP.Core.one64_pos
    omega
  have d1 : FP.dcmp (q_ei x) 13893604850437980160 = _ := FP.Core.dcmp_zval (fin_ne (ei_fin x)) n_lo
  have d2 : FP.dcmp (q_ei x) 4670232813583204352 = _ := FP.Core.dcmp_zval (fin_ne (ei_fin x)) n_hi
  rw [z_lo, FP.Core.compare_ite] at d1
  rw [z_hi, FP.Core.compare_ite] at d2
  unfold f_Q_isNumber
  rw [d1, d2]
  generalize FP.Core.zval FP.Core.b64 (FP.Core.val64 (q_ei x)) = z at *
  generalize (FP.Core.one64 : Int) = o at *
  by_cases c1 : z < -(16384 * o)
  · rw [if_pos c1]
    exact Or.inl (if_pos (by decide))
  · rw [if_neg c1]
    have k1 : ¬ Op.cmpValue (some (if z = -(16384 * o) then Ordering.eq else Ordering.gt)) .l < 0 := by
      by_cases c : z = -(16384 * o)
      · rw [if_pos c]; decide
      · rw [if_neg c]; decide
    rw [if_neg k1]
    by_cases c2 : 16384 * o < z
    · rw [if_neg (show ¬ z < 16384 * o by omega), if_neg (show ¬ z = 16384 * o by omega)]
      exact Or.inl (if_pos (by decide))
    · have k2 : ¬ 0 < Op.cmpValue (some (if z < 16384 * o then Ordering.lt else if z = 16384 * o then Ordering.eq else Ordering.gt)) .g := by
        by_cases c : z < 16384 * o
        · rw [if_pos c]; decide
        · rw [if_neg c, if_pos (by omega)]; decide
      rw [if_neg k2]
      refine Or.inr ⟨rfl, ?_, ?_⟩
      · refine Int.le_of_mul_le_mul_right ?_ h1
        omega
      · refine Int.le_of_mul_le_mul_right ?_ h1
        omega
theorem q_d2i_i2d (x : Int32) : FP.d2i (FP.i2d x) = x := FP.Core.d2i_int (FP.Core.i2d_int x)
theorem eighths_of (x : Int32) : f_Q_eighthsOf (q_ei x) = some x := by
  unfold f_Q_eighthsOf
  rw [ei_mul, qs_nan_ok (i2d_n64 x), qs_nan_ok (i2d_n64 x), q_d2i_i2d, show FP.dcmp (FP.i2d x) (FP.i2d x) = some .eq from FP.Core.dcmp_self (FP.Core.DInt_ne_nan (FP.Core.i2d_int x)), if_pos (by decide)]
theorem eighths_ref (x : Int32) : f_N_eighths (q_ei x) = some x.toInt64 := by
  unfold f_N_eighths
  rw [ei_mul, qs_nan_ok (i2d_n64 x), show FP.i2d x = FP.Core.l2d x.toInt64 from FP.Core.i2d_l2d x, show FP.d2l (FP.Core.l2d x.toInt64) = x.toInt64 from FP.Core.d2l_l2d_small (by
    have h1 := x.le_toInt
    have h2 := x.toInt_lt
    unfold FP.Core.Small53
    rw [Int32.toInt_toInt64]
    omega)]
theorem value_of (x : Int32) : f_Q_valueOf x = some (q_ei x) := by
  unfold f_Q_valueOf
  rw [ei_div, qs_nan_ok (n64_of (ei_fin x))]
theorem ei_same (x : Int32) : Op.cmpValue (FP.dcmp (q_ei x) (q_ei x)) .l = 0 := by
  rw [show FP.dcmp (q_ei x) (q_ei x) = some .eq from FP.Core.dcmp_self (fin_ne (ei_fin x))]
  rfl
theorem l2d_ei (x : Int32) : FP.dmul (FP.l2d x.toInt64) (4593671619917905920 : UInt64) = q_ei x := by
  rw [show FP.l2d x.toInt64 = FP.i2d x from (FP.Core.i2d_l2d x).symm]
  rfl
theorem rel_put {g : Sg} {t : Sm} (h : Rel g t) {j k : Nat} (hk : k < 16) (z : g 7 j = 1) {x : Int32} (hx : re_num x) : Rel (qs_a g 8 (16 * j + k) x) (qm_la t 1 (16 * j + k) x.toInt64) := by
  refine ⟨h.1, h.2.1, fun e he => ?_, h.2.2.2.1, h.2.2.2.2.1, h.2.2.2.2.2⟩
  show t.1 2 e = g 7 e ∧ (g 7 e = 0 ∨ g 7 e = 1) ∧ ∀ i : Nat, i < 16 → re_num (upd (g 8) (16 * j + k) x (16 * e + i)) ∧ (g 7 e = 0 → upd (g 8) (16 * j + k) x (16 * e + i) = 0) ∧ (g 7 e = 1 → re_eq (upd (g 8) (16 * j + k) x (16 * e + i)) (vp_updL (t.2 1) (16 * j + k) x.toInt64 (16 * e + i)))
  obtain ⟨e1, e2, e3⟩ := h.2.2.1 e he
  refine ⟨e1, e2, fun i hi => ?_⟩
  by_cases d : 16 * e + i = 16 * j + k
  · have hej : e = j := by omega
    subst hej
    rw [d, pk_us, pk_uLs]
    exact ⟨hx, fun q => absurd (z.symm.trans q) (by decide), fun _ => rfl⟩
  · rw [pk_un d, pk_uLn d]
    exact e3 i hi
theorem q_put_at {g : Sg} {j k : Nat} (hj : j < 12) (hk : k < 16) (z : g 7 j = 1) (x : Int32) : f_E_put g (nI j) (nI k) x = some ((), qs_a g 8 (16 * j + k) x) := by
  unfold f_E_put
  rw [qs_bn_of (there_at hj (Or.inr z)), if_neg (by rw [z]; decide), ix_ek, qs_in_ok (vp_in_nI (by omega) (by decide)), qs_st_of, nI_clamp (by omega)]
theorem put_gone {g : Sg} {j : Nat} (hj : j < 12) (z : g 7 j = 0) (k x : Int32) : f_E_put g (nI j) k x = some ((), g) := by
  unfold f_E_put
  rw [qs_bn_of (there_at hj (Or.inl z)), if_pos z]
theorem s_get : sm_get Rel := by
  intro g t h x1 x2
  have h0 : Rel g (qm_i t 20 0) := h
  rcases there_is h0.2.2.1 x1 with ⟨e1, e2⟩ | ⟨j, hj, ex, hz, e1, e2⟩
  · refine ⟨.inl ("java/util/NoSuchElementException", g), FP.i2d 0, qm_i (qm_i t 20 0) 20 1, ?_, ?_, rfl, (fun r u e => by cases e), h⟩
    · unfold f_Q_get; rw [qs_bn_of e1]; rfl
    · unfold f_N_get; rw [qs_st_of, qs_bn_of e2, if_neg (by decide)]; rfl
  subst ex
  rcases is_below x2 (b := 16) (by decide) with ⟨b1, n1⟩ | ⟨k, hk, ex, b1⟩
  · have b1 : f_Q_isBelow x2 16 = some 0 := b1
    have b2 : f_N_in x2 0 15 = some 0 := (below16 x2).symm.trans b1
    refine ⟨.inl ("java/lang/IllegalArgumentException", g), FP.i2d 0, qm_i (qm_i t 20 0) 20 2, ?_, ?_, rfl, (fun r u e => by cases e), h⟩
    · unfold f_Q_get; rw [qs_bn_of e1, if_neg (by decide), qs_pb_of b1]; rfl
    · unfold f_N_get; rw [qs_st_of, qs_bn_of e2, if_pos rfl, qs_pb_of b2]; rfl
  · subst ex
    have b1 : f_Q_isBelow (nI k) 16 = some 1 := b1
    have b2 : f_N_in (nI k) 0 15 = some 1 := (below16 (nI k)).symm.trans b1
    have hv : (qm_i t 20 0).2 1 (16 * j + k) = (g 8 (16 * j + k)).toInt64 := ((h.2.2.1 j hj).2.2 k hk).2.2 hz
    refine ⟨.inr (q_ei (g 8 (16 * j + k)), g), q_ei (g 8 (16 * j + k)), qm_i t 20 0, ?_, ?_, rfl, (fun r u e => by cases e; exact ei_same _), h⟩
    · unfold f_Q_get
      rw [qs_bn_of e1, if_neg (by decide), qs_pb_of b1, if_neg (by decide), qs_bn_of (q_field_at hj hk), qs_pb_of (value_of _)]
    · unfold f_N_get
      rw [qs_st_of, qs_bn_of e2, if_pos rfl, qs_pb_of b2, if_neg (by decide), ix_ke, qs_in_ok (vp_in_nI (by omega) (by decide)), nI_clamp (by omega), hv, l2d_ei, qs_nan_ok (n64_of (ei_fin _))]
theorem s_set : sm_set Rel := by
  intro g t h x1 x2 x3
  show ∃ r0 r1 t1, f_Q_set g x1 x2 (q_ei x3) = some r0 ∧ f_N_set t x1 x2 (q_ei x3) = some (r1, t1) ∧ t1.1 20 0 = qa_code (["java/util/NoSuchElementException", "java/lang/IllegalArgumentException"] : List String) r0 ∧ (∀ r u, r0 = .inr (r, u) → Op.cmpValue (FP.dcmp r r1) .l = 0) ∧ Rel (qa_st r0) t1
  have h0 : Rel g (qm_i t 20 0) := h
  rcases there_is h0.2.2.1 x1 with ⟨e1, e2⟩ | ⟨j, hj, ex, hz, e1, e2⟩
  · refine ⟨.inl ("java/util/NoSuchElementException", g), FP.i2d 0, qm_i (qm_i t 20 0) 20 1, ?_, ?_, rfl, (fun r u e => by cases e), h⟩
    · unfold f_Q_set; rw [qs_bn_of e1]; rfl
    · unfold f_N_set; rw [qs_st_of, qs_bn_of e2, if_neg (by decide)]; rfl
  subst ex
  rcases is_below x2 (b := 16) (by decide) with ⟨b1, n1⟩ | ⟨k, hk, ex, b1⟩
  · have b1 : f_Q_isBelow x2 16 = some 0 := b1
    have b2 : f_N_in x2 0 15 = some 0 := (below16 x2).symm.trans b1
    refine ⟨.inl ("java/lang/IllegalArgumentException", g), FP.i2d 0, qm_i (qm_i t 20 0) 20 2, ?_, ?_, rfl, (fun r u e => by cases e), h⟩
    · unfold f_Q_set; rw [qs_bn_of e1, if_neg (by decide), qs_pb_of b1]; rfl
    · unfold f_N_set; rw [qs_st_of, qs_bn_of e2, if_pos rfl, qs_pb_of b2]; rfl
  subst ex
  have b1 : f_Q_isBelow (nI k) 16 = some 1 := b1
  have b2 : f_N_in (nI k) 0 15 = some 1 := (below16 (nI k)).symm.trans b1
  rcases is_number x3 with m1 | ⟨m1, hx⟩
  · have m2 : f_N_number (q_ei x3) = some 0 := m1
    refine ⟨.inl ("java/lang/IllegalArgumentException", g), FP.i2d 0, qm_i (qm_i t 20 0) 20 2, ?_, ?_, rfl, (fun r u e => by cases e), h⟩
    · unfold f_Q_set; rw [qs_bn_of e1, if_neg (by decide), qs_pb_of b1, if_neg (by decide), qs_pb_of m1]; rfl
    · unfold f_N_set; rw [qs_st_of, qs_bn_of e2, if_pos rfl, qs_pb_of b2, if_neg (by decide), qs_pb_of m2]; rfl
  · have m2 : f_N_number (q_ei x3) = some 1 := m1
    have hv : (qm_i t 20 0).2 1 (16 * j + k) = (g 8 (16 * j + k)).toInt64 := ((h.2.2.1 j hj).2.2 k hk).2.2 hz
    refine ⟨.inr (q_ei (g 8 (16 * j + k)), qs_a g 8 (16 * j + k) x3), q_ei (g 8 (16 * j + k)), qm_la (qm_i t 20 0) 1 (16 * j + k) x3.toInt64, ?_, ?_, rfl, (fun r u e => by cases e; exact ei_same _), rel_put h0 hk hz hx⟩
    · unfold f_Q_set
      rw [qs_bn_of e1, if_neg (by decide), qs_pb_of b1, if_neg (by decide), qs_pb_of m1, if_neg (by decide), qs_bn_of (q_field_at hj hk), qs_pb_of (value_of _), qs_pb_of (eighths_of x3), qs_bn_of (q_put_at hj hk hz x3)]
    · unfold f_N_set
      rw [qs_st_of, qs_bn_of e2, if_pos rfl, qs_pb_of b2, if_neg (by decide), qs_pb_of m2, if_neg (by decide), ix_ke, qs_in_ok (vp_in_nI (by omega) (by decide)), qs_pb_of (eighths_ref x3), qs_in_ok (vp_in_nI (by omega) (by decide)), qs_st_of, nI_clamp (by omega), hv, l2d_ei, qs_nan_ok (n64_of (ei_fin _))]
