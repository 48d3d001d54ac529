def q_sz (x : Int32) : Int32 := if 8 < (if x < 256 then x else 256) then (if x < 256 then x else 256) else 8
theorem sz_bd (x : Int32) : 8 ≤ (q_sz x).toInt ∧ (q_sz x).toInt ≤ 256 := by
  unfold q_sz
  by_cases c : x < 256
  · rw [if_pos c]
    have k := Int32.lt_iff_toInt_lt.mp c
    rw [show (256 : Int32).toInt = 256 from rfl] at k
    by_cases d : 8 < x
    · rw [if_pos d]
      have k2 := Int32.lt_iff_toInt_lt.mp d
      rw [show (8 : Int32).toInt = 8 from rfl] at k2
      omega
    · rw [if_neg d]; decide
  · rw [if_neg c]; decide
theorem sz_at {g : Sg} {j : Nat} (hj : j < 12) : f_E_sizeUsed g (nI j) = some (q_sz (g 8 (16 * j + 4)), g) := by
  unfold f_E_sizeUsed
  rw [qs_bn_of (field_K 4 4 hj)]
  rfl
theorem half_sz (x : Int32) (t : Sm) : (if 0 ≤ lg_cmp x.toInt64 8 then if lg_cmp x.toInt64 256 ≤ 0 then some (x.toInt64, t) else some ((256 : Int64), t) else some ((8 : Int64), t)) = some ((q_sz x).toInt64, t) := by
  have h8 : (0 ≤ lg_cmp x.toInt64 8) ↔ 8 ≤ x.toInt := by
    rw [lg_cmp_ge, Int64.le_iff_toInt_le, ti64]
    exact Iff.rfl
  have h256 : (lg_cmp x.toInt64 256 ≤ 0) ↔ x.toInt ≤ 256 := by
    rw [lg_cmp_le, Int64.le_iff_toInt_le, ti64]
    exact Iff.rfl
  unfold q_sz
  by_cases c : x < 256
  · have k := Int32.lt_iff_toInt_lt.mp c
    rw [show (256 : Int32).toInt = 256 from rfl] at k
    rw [if_pos c]
    by_cases d : 8 < x
    · have k2 := Int32.lt_iff_toInt_lt.mp d
      rw [show (8 : Int32).toInt = 8 from rfl] at k2
      rw [if_pos d, if_pos (h8.mpr (by omega)), if_pos (h256.mpr (by omega))]
    · rw [if_neg d]
      have k2 : ¬ 8 < x.toInt := fun q => d (Int32.lt_iff_toInt_lt.mpr q)
      by_cases e : 8 ≤ x.toInt
      · rw [if_pos (h8.mpr e), if_pos (h256.mpr (by omega)), show x = 8 from Int32.toInt_inj.mp (by rw [show (8 : Int32).toInt = 8 from rfl]; omega)]
      · rw [if_neg (fun q => e (h8.mp q))]; rfl
  · have k : ¬ x.toInt < 256 := fun q => c (Int32.lt_iff_toInt_lt.mpr q)
    rw [if_neg c, if_pos (show (8 : Int32) < 256 by decide), if_pos (h8.mpr (by omega))]
    by_cases e : x.toInt ≤ 256
    · rw [if_pos (h256.mpr e), show x = 256 from Int32.toInt_inj.mp (by rw [show (256 : Int32).toInt = 256 from rfl]; omega)]
    · rw [if_neg (fun q => e (h256.mp q))]; rfl
theorem q_fld {g : Sg} {t : Sm} (h : q_Rz g t) {j k : Nat} (hj : j < 12) (hk : k < 16) (z : g 7 j = 1) : t.2 1 (16 * j + k) = (g 8 (16 * j + k)).toInt64 := ((h.1.2.2.1 j hj).2.2 k hk).2.2 z
theorem fld_n {g : Sg} {t : Sm} (h : q_Rz g t) {j k : Nat} (hj : j < 12) (hk : k < 16) : re_num (g 8 (16 * j + k)) := ((h.1.2.2.1 j hj).2.2 k hk).1
theorem fld_0 {g : Sg} {t : Sm} (h : q_Rz g t) {j k : Nat} (hj : j < 12) (hk : k < 16) (z : g 7 j = 0) : g 8 (16 * j + k) = 0 := ((h.1.2.2.1 j hj).2.2 k hk).2.1 z
theorem th_is {g : Sg} {t : Sm} (h : q_Rz g t) {j : Nat} (hj : j < 12) : t.1 2 j = g 7 j := (h.1.2.2.1 j hj).1
theorem th_01 {g : Sg} {t : Sm} (h : q_Rz g t) {j : Nat} (hj : j < 12) : g 7 j = 0 ∨ g 7 j = 1 := (h.1.2.2.1 j hj).2.1
theorem ixK (K : Int32) (k : Nat) (j : Nat) (hK : K = nI k := by rfl) : 16 * nI j + K = nI (16 * j + k) := by rw [hK]; exact ix_ke j k
theorem half_at {g : Sg} {t : Sm} (h : q_Rz g t) {j : Nat} (hj : j < 12) (z : g 7 j = 1) : f_N_half t (nI j) = some ((q_sz (g 8 (16 * j + 4))).toInt64, t) := by
  unfold f_N_half
  rw [ixK 4 4 j, qs_in_ok (vp_in_nI (by omega) (by decide)), nI_clamp (by omega), q_fld h hj (by omega) z]
  exact half_sz _ t
theorem low_at {g : Sg} {j a : Nat} (hj : j < 12) (ha : a < 16) : f_E_low g (nI j) (nI a) = some (g 8 (16 * j + a) - q_sz (g 8 (16 * j + 4)), g) := by
  unfold f_E_low
  rw [qs_bn_of (q_field_at hj ha), qs_bn_of (sz_at hj)]
theorem high_at {g : Sg} {j a : Nat} (hj : j < 12) (ha : a < 16) : f_E_high g (nI j) (nI a) = some (g 8 (16 * j + a) + q_sz (g 8 (16 * j + 4)), g) := by
  unfold f_E_high
  rw [qs_bn_of (q_field_at hj ha), qs_bn_of (sz_at hj)]
theorem wf_at {g : Sg} {j k : Nat} (hj : j < 12) (hk : k < 16) : f_E_wholeField g (nI j) (nI k) = some (g 8 (16 * j + k) >>> (3 &&& 31), g) := by
  unfold f_E_wholeField
  rw [qs_bn_of (q_field_at hj hk)]
  rfl
theorem wf_K (K : Int32) (k : Nat) {g : Sg} {j : Nat} (hj : j < 12) (hk : k < 16 := by decide) (hK : K = nI k := by rfl) : f_E_wholeField g (nI j) K = some (g 8 (16 * j + k) >>> (3 &&& 31), g) := by
  rw [hK]
  exact wf_at hj hk
def ovl (g : Sg) (o e a : Nat) : Int32 := if (g 8 (16 * o + a)).toInt - (g 8 (16 * e + a)).toInt < (q_sz (g 8 (16 * o + 4))).toInt + (q_sz (g 8 (16 * e + 4))).toInt ∧ (g 8 (16 * e + a)).toInt - (g 8 (16 * o + a)).toInt < (q_sz (g 8 (16 * o + 4))).toInt + (q_sz (g 8 (16 * e + 4))).toInt then 1 else 0
theorem boxes_at {g : Sg} {o e a : Nat} (ho : o < 12) (he : e < 12) (ha : a < 16) (n1 : re_num (g 8 (16 * o + a))) (n2 : re_num (g 8 (16 * e + a))) : f_E_boxesOverlap g (nI o) (nI e) (nI a) = some (ovl g o e a, g) := by
  unfold f_E_boxesOverlap ovl
  rw [qs_bn_of (q_field_at ho ha), qs_bn_of (q_field_at he ha), qs_bn_of (sz_at ho), qs_bn_of (sz_at he)]
  have b1 := sz_bd (g 8 (16 * o + 4))
  have b2 := sz_bd (g 8 (16 * e + 4))
  obtain ⟨n1, n1'⟩ := n1
  obtain ⟨n2, n2'⟩ := n2
  generalize g 8 (16 * o + a) = x at *
  generalize g 8 (16 * e + a) = y at *
  generalize q_sz (g 8 (16 * o + 4)) = s at *
  generalize q_sz (g 8 (16 * e + 4)) = r at *
  have k1 : (x - y).toInt = x.toInt - y.toInt := q_i32_sub (by omega) (by omega)
  have k2 : (s + r).toInt = s.toInt + r.toInt := q_i32_add (by omega) (by omega)
  have k3 : (0 - (x - y)).toInt = -(x.toInt - y.toInt) := by
    rw [q_i32_sub (by rw [k1, show (0 : Int32).toInt = 0 from rfl]; omega) (by rw [k1, show (0 : Int32).toInt = 0 from rfl]; omega), k1, show (0 : Int32).toInt = 0 from rfl]; omega
  by_cases c : 0 ≤ x - y
  · have c' := Int32.le_iff_toInt_le.mp c
    rw [k1, show (0 : Int32).toInt = 0 from rfl] at c'
    rw [if_pos c]
    by_cases d : s + r ≤ x - y
    · have d' := Int32.le_iff_toInt_le.mp d
      rw [k1, k2] at d'
      rw [if_pos d, if_neg (by omega)]
    · have d' : ¬ (s + r).toInt ≤ (x - y).toInt := fun q => d (Int32.le_iff_toInt_le.mpr q)
      rw [k1, k2] at d'
      rw [if_neg d, if_pos (by omega)]
  · have c' : ¬ (0 : Int32).toInt ≤ (x - y).toInt := fun q => c (Int32.le_iff_toInt_le.mpr q)
    rw [k1, show (0 : Int32).toInt = 0 from rfl] at c'
    rw [if_neg c]
    by_cases d : s + r ≤ 0 - (x - y)
    · have d' := Int32.le_iff_toInt_le.mp d
      rw [k3, k2] at d'
      rw [if_pos d, if_neg (by omega)]
    · have d' : ¬ (s + r).toInt ≤ (0 - (x - y)).toInt := fun q => d (Int32.le_iff_toInt_le.mpr q)
      rw [k3, k2] at d'
      rw [if_neg d, if_pos (by omega)]
theorem overlap_is (a1 a2 a3 a4 : Int64) : f_N_overlap a1 a2 a3 a4 = some (if a1.toInt < a4.toInt ∧ a3.toInt < a2.toInt then 1 else 0) := by
  unfold f_N_overlap
  by_cases c : a4 ≤ a1
  · have c' := Int64.le_iff_toInt_le.mp c
    rw [if_pos ((lg_cmp_ge _ _).mpr c), if_neg (by omega)]
  · have c' : ¬ a4.toInt ≤ a1.toInt := fun q => c (Int64.le_iff_toInt_le.mpr q)
    rw [if_neg (fun q => c ((lg_cmp_ge _ _).mp q))]
    by_cases d : a2 ≤ a3
    · have d' := Int64.le_iff_toInt_le.mp d
      rw [if_pos ((lg_cmp_ge _ _).mpr d), if_neg (by omega)]
    · have d' : ¬ a2.toInt ≤ a3.toInt := fun q => d (Int64.le_iff_toInt_le.mpr q)
      rw [if_neg (fun q => d ((lg_cmp_ge _ _).mp q)), if_pos (by omega)]
theorem lo64 {x s : Int32} (h : re_num x) (b : 8 ≤ s.toInt ∧ s.toInt ≤ 256) : (x.toInt64 - s.toInt64).toInt = x.toInt - s.toInt := by
  obtain ⟨h1, h2⟩ := h
  rw [q_i64_sub (by rw [ti64, ti64]; omega) (by rw [ti64, ti64]; omega), ti64, ti64]
theorem hi64 {x s : Int32} (h : re_num x) (b : 8 ≤ s.toInt ∧ s.toInt ≤ 256) : (x.toInt64 + s.toInt64).toInt = x.toInt + s.toInt := by
  obtain ⟨h1, h2⟩ := h
  rw [q_i64_add (by rw [ti64, ti64]; omega) (by rw [ti64, ti64]; omega), ti64, ti64]
theorem meets_at {g : Sg} {t : Sm} (h : q_Rz g t) {o e a : Nat} (ho : o < 12) (he : e < 12) (ha : a < 16) (zo : g 7 o = 1) (ze : g 7 e = 1) : f_N_meets t (nI e) (nI o) (nI a) = some (ovl g o e a, t) := by
  have n1 := fld_n h ho ha
  have n2 := fld_n h he ha
  have b1 := sz_bd (g 8 (16 * o + 4))
  have b2 := sz_bd (g 8 (16 * e + 4))
  unfold f_N_meets ovl
  rw [ix_ke, ix_ke, qs_in_ok (vp_in_nI (by omega) (by decide)), qs_in_ok (vp_in_nI (by omega) (by decide)), qs_bn_of (half_at h he ze), qs_bn_of (half_at h he ze), qs_bn_of (half_at h ho zo), qs_bn_of (half_at h ho zo), nI_clamp (n := 16 * e + a) (by omega), nI_clamp (n := 16 * o + a) (by omega), q_fld h he ha ze, q_fld h ho ha zo, qs_pb_of (overlap_is _ _ _ _), lo64 n1 b1, lo64 n2 b2, hi64 n1 b1, hi64 n2 b2]
  obtain ⟨n1, n1'⟩ := n1
  obtain ⟨n2, n2'⟩ := n2
  by_cases c : (g 8 (16 * o + a)).toInt - (g 8 (16 * e + a)).toInt < (q_sz (g 8 (16 * o + 4))).toInt + (q_sz (g 8 (16 * e + 4))).toInt ∧ (g 8 (16 * e + a)).toInt - (g 8 (16 * o + a)).toInt < (q_sz (g 8 (16 * o + 4))).toInt + (q_sz (g 8 (16 * e + 4))).toInt
  · rw [if_pos c, if_pos (by omega)]; rfl
  · rw [if_neg c, if_neg (by omega)]; rfl
def q_Mtt (g : Sg) (t : Sm) (L : Int32) : Prop := (g 29 0 = -2 ∧ g 28 0 = L ∧ (t.1 27 0 = -2 ∨ L.toInt ≤ (t.2 28 0).toInt)) ∨ (g 29 0 = t.1 27 0 ∧ ¬ t.1 27 0 = -2 ∧ -1 ≤ (t.1 27 0).toInt ∧ (t.1 27 0).toInt ≤ 11 ∧ t.2 28 0 = (g 28 0).toInt64 ∧ 0 ≤ (g 28 0).toInt ∧ (g 28 0).toInt < L.toInt)
theorem meet_eq {g : Sg} {t : Sm} (h : q_Rz g t) {L : Int32} (hm : q_Mtt g t L) {w d : Int32} (hw : -1 ≤ w.toInt) (hw2 : w.toInt ≤ 11) : ∃ u v, f_V_meet g w d = some ((), u) ∧ f_N_consider_16 t w d.toInt64 = some ((), v) ∧ q_Rz u v ∧ q_Mtt u v L ∧ u 7 = g 7 ∧ u 8 = g 8 ∧ u 20 = g 20 := by
  have hw' : ¬ w = -2 := fun q => by rw [q] at hw; exact absurd hw (by decide)
  unfold f_V_meet f_N_consider_16
  have lt0 : (lg_cmp d.toInt64 0 < 0) ↔ d < 0 := by
    rw [lg_cmp_lt, Int64.lt_iff_toInt_lt, ti64, Int32.lt_iff_toInt_lt]
    exact Iff.rfl
  by_cases c : d < 0
  · rw [if_pos c, if_pos (lt0.mpr c)]
    exact ⟨g, t, rfl, rfl, h, hm, rfl, rfl, rfl⟩
  rw [if_neg c, if_neg (fun q => c (lt0.mp q))]
  have c' : ¬ d.toInt < (0 : Int32).toInt := fun q => c (Int32.lt_iff_toInt_lt.mpr q)
  rw [show (0 : Int32).toInt = 0 from rfl] at c'
  have take : q_Rz (qs_i (qs_i g 28 d) 29 w) (qm_l (qm_i t 27 w) 28 d.toInt64) := h
  have take2 : q_Rz g (qm_l (qm_i t 27 w) 28 d.toInt64) := h
  have ncmp : ∀ y : Int64, (lg_cmp d.toInt64 y < 0) ↔ d.toInt < y.toInt := fun y => by
    rw [lg_cmp_lt, Int64.lt_iff_toInt_lt, ti64]
  rcases hm with ⟨m1, m2, m3⟩ | ⟨m1, m2, m3, m4, m5, m6, m7⟩
  · rw [m2]
    by_cases e : L ≤ d
    · have e' := Int32.le_iff_toInt_le.mp e
      rw [if_pos e]
      by_cases f : t.1 27 0 = -2
      · rw [if_pos f]
        exact ⟨g, _, rfl, rfl, take2, Or.inl ⟨m1, m2, Or.inr (show L.toInt ≤ d.toInt64.toInt by rw [ti64]; exact e')⟩, rfl, rfl, rfl⟩
      · rw [if_neg f]
        by_cases k : d.toInt < (t.2 28 0).toInt
        · rw [if_pos ((ncmp _).mpr k)]
          exact ⟨g, _, rfl, rfl, take2, Or.inl ⟨m1, m2, Or.inr (show L.toInt ≤ d.toInt64.toInt by rw [ti64]; exact e')⟩, rfl, rfl, rfl⟩
        · rw [if_neg (fun q => k ((ncmp _).mp q))]
          exact ⟨g, t, rfl, rfl, h, Or.inl ⟨m1, m2, m3⟩, rfl, rfl, rfl⟩
    · have e' : ¬ L.toInt ≤ d.toInt := fun q => e (Int32.le_iff_toInt_le.mpr q)
      rw [if_neg e]
      have new : q_Mtt (qs_i (qs_i g 28 d) 29 w) (qm_l (qm_i t 27 w) 28 d.toInt64) L := Or.inr ⟨rfl, hw', hw, hw2, rfl, show 0 ≤ d.toInt by omega, show d.toInt < L.toInt by omega⟩
      refine ⟨_, qm_l (qm_i t 27 w) 28 d.toInt64, rfl, ?_, take, new, rfl, rfl, rfl⟩
      by_cases f : t.1 27 0 = -2
      · rw [if_pos f]; rfl
      · have k : d.toInt < (t.2 28 0).toInt := by
          rcases m3 with m3 | m3
          · exact absurd m3 f
          · omega
        rw [if_neg f, if_pos ((ncmp _).mpr k)]; rfl
  · rw [if_neg m2, m5]
    by_cases e : g 28 0 ≤ d
    · have e' := Int32.le_iff_toInt_le.mp e
      rw [if_pos e, if_neg (fun q => by
        have q2 := (ncmp _).mp q
        rw [ti64] at q2
        omega)]
      exact ⟨g, t, rfl, rfl, h, Or.inr ⟨m1, m2, m3, m4, m5, m6, m7⟩, rfl, rfl, rfl⟩
    · have e' : ¬ (g 28 0).toInt ≤ d.toInt := fun q => e (Int32.le_iff_toInt_le.mpr q)
      rw [if_neg e, if_pos ((ncmp _).mpr (by rw [ti64]; omega))]
      exact ⟨_, _, rfl, rfl, take, Or.inr ⟨rfl, hw', hw, hw2, rfl, show 0 ≤ d.toInt by omega, show d.toInt < L.toInt by omega⟩, rfl, rfl, rfl⟩
