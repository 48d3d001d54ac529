theorem q_i32_add {a b : Int32} (h1 : -2147483648 ≤ a.toInt + b.toInt) (h2 : a.toInt + b.toInt ≤ 2147483647) : (a + b).toInt = a.toInt + b.toInt := by
  rw [Int32.toInt_add]; exact Int.bmod_eq_of_le (by omega) (by omega)
theorem q_i32_sub {a b : Int32} (h1 : -2147483648 ≤ a.toInt - b.toInt) (h2 : a.toInt - b.toInt ≤ 2147483647) : (a - b).toInt = a.toInt - b.toInt := by
  rw [Int32.toInt_sub]; exact Int.bmod_eq_of_le (by omega) (by omega)
theorem q_i32_neg {a : Int32} (h1 : -2147483648 ≤ -a.toInt) (h2 : -a.toInt ≤ 2147483647) : (-a).toInt = -a.toInt := by
  rw [Int32.toInt_neg]; exact Int.bmod_eq_of_le (by omega) (by omega)
theorem q_i64_add {a b : Int64} (h1 : -9223372036854775808 ≤ a.toInt + b.toInt) (h2 : a.toInt + b.toInt ≤ 9223372036854775807) : (a + b).toInt = a.toInt + b.toInt := by
  rw [Int64.toInt_add]; exact Int.bmod_eq_of_le (by omega) (by omega)
theorem q_i64_sub {a b : Int64} (h1 : -9223372036854775808 ≤ a.toInt - b.toInt) (h2 : a.toInt - b.toInt ≤ 9223372036854775807) : (a - b).toInt = a.toInt - b.toInt := by
  rw [Int64.toInt_sub]; exact Int.bmod_eq_of_le (by omega) (by omega)
theorem q_i64_mul {a b : Int64} (h1 : -9223372036854775808 ≤ a.toInt * b.toInt) (h2 : a.toInt * b.toInt ≤ 9223372036854775807) : (a * b).toInt = a.toInt * b.toInt := by
  rw [Int64.toInt_mul]; exact Int.bmod_eq_of_le (by omega) (by omega)
theorem q_i64_neg {a : Int64} (h1 : -9223372036854775808 ≤ -a.toInt) (h2 : -a.toInt ≤ 9223372036854775807) : (-a).toInt = -a.toInt := by
  rw [Int64.toInt_neg]; exact Int.bmod_eq_of_le (by omega) (by omega)
theorem ti64 (x : Int32) : x.toInt64.toInt = x.toInt := Int32.toInt_toInt64 x
theorem q_add64 {a b : Int32} (h1 : -2147483648 ≤ a.toInt + b.toInt) (h2 : a.toInt + b.toInt ≤ 2147483647) : (a + b).toInt64 = a.toInt64 + b.toInt64 := by
  refine Int64.toInt_inj.mp ?_
  rw [ti64, q_i32_add h1 h2, q_i64_add (by rw [ti64, ti64]; omega) (by rw [ti64, ti64]; omega), ti64, ti64]
theorem q_sub64 {a b : Int32} (h1 : -2147483648 ≤ a.toInt - b.toInt) (h2 : a.toInt - b.toInt ≤ 2147483647) : (a - b).toInt64 = a.toInt64 - b.toInt64 := by
  refine Int64.toInt_inj.mp ?_
  rw [ti64, q_i32_sub h1 h2, q_i64_sub (by rw [ti64, ti64]; omega) (by rw [ti64, ti64]; omega), ti64, ti64]
theorem q_neg64 {a : Int32} (h1 : -2147483647 ≤ a.toInt) : (-a).toInt64 = -a.toInt64 := by
  have h2 := a.toInt_lt
  refine Int64.toInt_inj.mp ?_
  rw [ti64, q_i32_neg (by omega) (by omega), q_i64_neg (by rw [ti64]; omega) (by rw [ti64]; omega), ti64]
theorem lt64 (a b : Int32) : a.toInt64 < b.toInt64 ↔ a < b := by rw [Int64.lt_iff_toInt_lt, ti64, ti64, Int32.lt_iff_toInt_lt]
theorem le64 (a b : Int32) : a.toInt64 ≤ b.toInt64 ↔ a ≤ b := by rw [Int64.le_iff_toInt_le, ti64, ti64, Int32.le_iff_toInt_le]
theorem eq64 (a b : Int32) : a.toInt64 = b.toInt64 ↔ a = b := ⟨t64_inj, fun h => by rw [h]⟩
theorem clamp_eq (y : Int64) : ∃ r : Int32, f_Q_inRange y = some r ∧ f_N_clamp y = some r.toInt64 ∧ re_num r := by
  unfold f_Q_inRange f_N_clamp
  by_cases c1 : y ≤ 131072
  · rw [if_pos ((lg_cmp_le _ _).mpr c1), if_pos ((lg_cmp_le _ _).mpr c1)]
    by_cases c2 : -131072 ≤ y
    · rw [if_pos ((lg_cmp_ge _ _).mpr c2), if_pos ((lg_cmp_ge _ _).mpr c2)]
      have k1 := Int64.le_iff_toInt_le.mp c1
      have k2 := Int64.le_iff_toInt_le.mp c2
      rw [show (131072 : Int64).toInt = 131072 from rfl] at k1
      rw [show (-131072 : Int64).toInt = -131072 from rfl] at k2
      have k3 : y.toInt32.toInt = y.toInt := by
        rw [Int64.toInt_toInt32]; exact Int.bmod_eq_of_le (by omega) (by omega)
      refine ⟨y.toInt32, rfl, congrArg some (Int64.toInt_inj.mp ?_), ?_, ?_⟩
      · rw [ti64, k3]
      · rw [k3]; exact k2
      · rw [k3]; exact k1
    · rw [if_neg (fun q => c2 ((lg_cmp_ge _ _).mp q)), if_neg (fun q => c2 ((lg_cmp_ge _ _).mp q))]
      exact ⟨-131072, rfl, by decide, by unfold re_num; decide⟩
  · have c2 : -131072 ≤ y := by
      rw [Int64.le_iff_toInt_le]
      have k1 : ¬ y.toInt ≤ (131072 : Int64).toInt := fun q => c1 (Int64.le_iff_toInt_le.mpr q)
      rw [show (131072 : Int64).toInt = 131072 from rfl] at k1
      rw [show (-131072 : Int64).toInt = -131072 from rfl]
      omega
    rw [if_neg (fun q => c1 ((lg_cmp_le _ _).mp q)), if_pos ((lg_cmp_ge _ _).mpr c2), if_neg (fun q => c1 ((lg_cmp_le _ _).mp q))]
    exact ⟨131072, rfl, by decide, by unfold re_num; decide⟩
theorem td8 (k : Int) : k.tdiv 8 = if 0 ≤ k then k / 8 else -((-k) / 8) := by
  by_cases c : 0 ≤ k
  · rw [if_pos c, Int.tdiv_eq_ediv_of_nonneg c]
  · rw [if_neg c, show k.tdiv 8 = -((-k).tdiv 8) by rw [Int.neg_tdiv, Int.neg_neg], Int.tdiv_eq_ediv_of_nonneg (by omega)]
theorem td2 (k : Int) : k.tdiv 2 = if 0 ≤ k then k / 2 else -((-k) / 2) := by
  by_cases c : 0 ≤ k
  · rw [if_pos c, Int.tdiv_eq_ediv_of_nonneg c]
  · rw [if_neg c, show k.tdiv 2 = -((-k).tdiv 2) by rw [Int.neg_tdiv, Int.neg_neg], Int.tdiv_eq_ediv_of_nonneg (by omega)]
theorem d8_64 {y : Int64} (h1 : -1099511627776 ≤ y.toInt) (h2 : y.toInt ≤ 1099511627776) : (y / 8).toInt = if 0 ≤ y.toInt then y.toInt / 8 else -((-y.toInt) / 8) := by
  rw [Int64.toInt_div, show (8 : Int64).toInt = 8 from rfl, td8]
  by_cases c : 0 ≤ y.toInt
  · rw [if_pos c]; exact Int.bmod_eq_of_le (by omega) (by omega)
  · rw [if_neg c]; exact Int.bmod_eq_of_le (by omega) (by omega)
theorem d2_64 {y : Int64} (h1 : -1099511627776 ≤ y.toInt) (h2 : y.toInt ≤ 1099511627776) : (y / 2).toInt = if 0 ≤ y.toInt then y.toInt / 2 else -((-y.toInt) / 2) := by
  rw [Int64.toInt_div, show (2 : Int64).toInt = 2 from rfl, td2]
  by_cases c : 0 ≤ y.toInt
  · rw [if_pos c]; exact Int.bmod_eq_of_le (by omega) (by omega)
  · rw [if_neg c]; exact Int.bmod_eq_of_le (by omega) (by omega)
theorem d8_32 {y : Int32} (h1 : -1000000000 ≤ y.toInt) (h2 : y.toInt ≤ 1000000000) : (y / 8).toInt = if 0 ≤ y.toInt then y.toInt / 8 else -((-y.toInt) / 8) := by
  rw [Int32.toInt_div, show (8 : Int32).toInt = 8 from rfl, td8]
  by_cases c : 0 ≤ y.toInt
  · rw [if_pos c]; exact Int.bmod_eq_of_le (by omega) (by omega)
  · rw [if_neg c]; exact Int.bmod_eq_of_le (by omega) (by omega)
theorem d2_32 {y : Int32} (h1 : -1000000000 ≤ y.toInt) (h2 : y.toInt ≤ 1000000000) : (y / 2).toInt = if 0 ≤ y.toInt then y.toInt / 2 else -((-y.toInt) / 2) := by
  rw [Int32.toInt_div, show (2 : Int32).toInt = 2 from rfl, td2]
  by_cases c : 0 ≤ y.toInt
  · rw [if_pos c]; exact Int.bmod_eq_of_le (by omega) (by omega)
  · rw [if_neg c]; exact Int.bmod_eq_of_le (by omega) (by omega)
theorem sub_z64 (a : Int64) : a - (0 : Int32).toInt64 = a := by rw [show (0 : Int32).toInt64 = 0 from rfl]; exact Int64.sub_zero a
theorem down8 {y : Int64} (h1 : -1099511627776 ≤ y.toInt) (h2 : y.toInt ≤ 1099511627776) : ∃ q, f_N_down y 8 = some q ∧ q.toInt = y.toInt / 8 := by
  have e := d8_64 h1 h2
  have m1 : (y / 8 * 8).toInt = (y / 8).toInt * 8 := q_i64_mul (b := 8) (by rw [e, show (8 : Int64).toInt = 8 from rfl]; split <;> omega) (by rw [e, show (8 : Int64).toInt = 8 from rfl]; split <;> omega)
  have s1 : (y - y / 8 * 8).toInt = y.toInt - (y / 8).toInt * 8 := by
    rw [q_i64_sub (by rw [m1, e]; split <;> omega) (by rw [m1, e]; split <;> omega), m1]
  show ∃ q, (if 0 ≤ lg_cmp (y - y / 8 * 8) 0 then some (y / 8 - (0 : Int32).toInt64) else some (y / 8 - (1 : Int32).toInt64)) = some q ∧ _
  by_cases c : (0 : Int64) ≤ y - y / 8 * 8
  · rw [if_pos ((lg_cmp_ge _ _).mpr c), sub_z64]
    refine ⟨_, rfl, ?_⟩
    have k := Int64.le_iff_toInt_le.mp c
    rw [s1, show (0 : Int64).toInt = 0 from rfl, e] at k
    rw [e]
    split at k <;> split <;> omega
  · rw [if_neg (fun q => c ((lg_cmp_ge _ _).mp q))]
    have k : ¬ (0 : Int64).toInt ≤ (y - y / 8 * 8).toInt := fun q => c (Int64.le_iff_toInt_le.mpr q)
    rw [s1, show (0 : Int64).toInt = 0 from rfl, e] at k
    refine ⟨_, rfl, ?_⟩
    rw [q_i64_sub (by rw [ti64, e, show (1 : Int32).toInt = 1 from rfl]; split <;> omega) (by rw [ti64, e, show (1 : Int32).toInt = 1 from rfl]; split <;> omega), ti64, show (1 : Int32).toInt = 1 from rfl, e]
    split at k <;> split <;> omega
theorem down2 {y : Int64} (h1 : -1099511627776 ≤ y.toInt) (h2 : y.toInt ≤ 1099511627776) : ∃ q, f_N_down y 2 = some q ∧ q.toInt = y.toInt / 2 := by
  have e := d2_64 h1 h2
  have m1 : (y / 2 * 2).toInt = (y / 2).toInt * 2 := q_i64_mul (b := 2) (by rw [e, show (2 : Int64).toInt = 2 from rfl]; split <;> omega) (by rw [e, show (2 : Int64).toInt = 2 from rfl]; split <;> omega)
  have s1 : (y - y / 2 * 2).toInt = y.toInt - (y / 2).toInt * 2 := by
    rw [q_i64_sub (by rw [m1, e]; split <;> omega) (by rw [m1, e]; split <;> omega), m1]
  show ∃ q, (if 0 ≤ lg_cmp (y - y / 2 * 2) 0 then some (y / 2 - (0 : Int32).toInt64) else some (y / 2 - (1 : Int32).toInt64)) = some q ∧ _
  by_cases c : (0 : Int64) ≤ y - y / 2 * 2
  · rw [if_pos ((lg_cmp_ge _ _).mpr c), sub_z64]
    refine ⟨_, rfl, ?_⟩
    have k := Int64.le_iff_toInt_le.mp c
    rw [s1, show (0 : Int64).toInt = 0 from rfl, e] at k
    rw [e]
    split at k <;> split <;> omega
  · rw [if_neg (fun q => c ((lg_cmp_ge _ _).mp q))]
    have k : ¬ (0 : Int64).toInt ≤ (y - y / 2 * 2).toInt := fun q => c (Int64.le_iff_toInt_le.mpr q)
    rw [s1, show (0 : Int64).toInt = 0 from rfl, e] at k
    refine ⟨_, rfl, ?_⟩
    rw [q_i64_sub (by rw [ti64, e, show (1 : Int32).toInt = 1 from rfl]; split <;> omega) (by rw [ti64, e, show (1 : Int32).toInt = 1 from rfl]; split <;> omega), ti64, show (1 : Int32).toInt = 1 from rfl, e]
    split at k <;> split <;> omega
theorem q_shr3 (x : Int32) : (x >>> (3 &&& 31)).toInt = x.toInt / 8 := by
  rw [pk_shr x (3 &&& 31) 3 (by decide), Int.shiftRight_eq_div_pow]
  rfl
theorem whole_eq (x : Int32) : f_N_whole x.toInt64 = some (x >>> (3 &&& 31)) := by
  have h1 := x.le_toInt
  have h2 := x.toInt_lt
  obtain ⟨q, e1, e2⟩ := down8 (y := x.toInt64) (by rw [ti64]; omega) (by rw [ti64]; omega)
  unfold f_N_whole
  rw [qs_pb_of e1]
  refine congrArg some (Int32.toInt_inj.mp ?_)
  rw [Int64.toInt_toInt32, q_shr3, e2, ti64]
  exact Int.bmod_eq_of_le (by omega) (by omega)
theorem xs32 (x d : Int32) (hd : 0 ≤ d.toInt) : 0 ≤ x ^^^ d ↔ 0 ≤ x.toInt := by
  rw [Int32.le_iff_toInt_le, show (0 : Int32).toInt = 0 from rfl]
  have e : (x ^^^ d).toInt = (x.toBitVec ^^^ d.toBitVec).toInt := rfl
  have m := BitVec.msb_xor (x := x.toBitVec) (y := d.toBitVec)
  rw [BitVec.msb_eq_toInt, BitVec.msb_eq_toInt, BitVec.msb_eq_toInt] at m
  have e2 : x.toBitVec.toInt = x.toInt := rfl
  have e3 : d.toBitVec.toInt = d.toInt := rfl
  rw [← e, e2, e3] at m
  have : ¬ d.toInt < 0 := by omega
  rw [decide_eq_false this, Bool.xor_false] at m
  have m2 := decide_eq_decide.mp m
  omega
theorem xs64 (x d : Int64) (hd : 0 ≤ d.toInt) : 0 ≤ x ^^^ d ↔ 0 ≤ x.toInt := by
  rw [Int64.le_iff_toInt_le, show (0 : Int64).toInt = 0 from rfl]
  have e : (x ^^^ d).toInt = (x.toBitVec ^^^ d.toBitVec).toInt := rfl
  have m := BitVec.msb_xor (x := x.toBitVec) (y := d.toBitVec)
  rw [BitVec.msb_eq_toInt, BitVec.msb_eq_toInt, BitVec.msb_eq_toInt] at m
  have e2 : x.toBitVec.toInt = x.toInt := rfl
  have e3 : d.toBitVec.toInt = d.toInt := rfl
  rw [← e, e2, e3] at m
  have : ¬ d.toInt < 0 := by omega
  rw [decide_eq_false this, Bool.xor_false] at m
  have m2 := decide_eq_decide.mp m
  omega
theorem fd8_64 {y : Int64} (h1 : -1099511627776 ≤ y.toInt) (h2 : y.toInt ≤ 1099511627776) : ∃ q, f_J_floorDiv_JJJ y 8 = some q ∧ q.toInt = y.toInt / 8 := by
  have e := d8_64 h1 h2
  have m1 : (y / 8 * 8).toInt = (y / 8).toInt * 8 := q_i64_mul (b := 8) (by rw [e, show (8 : Int64).toInt = 8 from rfl]; split <;> omega) (by rw [e, show (8 : Int64).toInt = 8 from rfl]; split <;> omega)
  show ∃ q, (if 0 ≤ lg_cmp (y ^^^ 8) 0 then some (y / 8) else if lg_cmp (y / 8 * 8) y = 0 then some (y / 8) else some (y / 8 - 1)) = some q ∧ _
  by_cases c : 0 ≤ y.toInt
  · rw [if_pos ((lg_cmp_ge _ _).mpr ((xs64 y 8 (by decide)).mpr c))]
    refine ⟨_, rfl, ?_⟩
    rw [e, if_pos c]
  · rw [if_neg (fun q => c ((xs64 y 8 (by decide)).mp ((lg_cmp_ge _ _).mp q)))]
    rw [if_neg c] at e
    by_cases d : y / 8 * 8 = y
    · rw [if_pos ((lg_cmp_eq _ _).mpr d)]
      refine ⟨_, rfl, ?_⟩
      have k := congrArg Int64.toInt d
      rw [m1, e] at k
      rw [e]
      omega
    · rw [if_neg (fun q => d ((lg_cmp_eq _ _).mp q))]
      refine ⟨_, rfl, ?_⟩
      have k : ¬ (y / 8 * 8).toInt = y.toInt := fun q => d (Int64.toInt_inj.mp q)
      rw [m1, e] at k
      rw [q_i64_sub (by rw [e, show (1 : Int64).toInt = 1 from rfl]; omega) (by rw [e, show (1 : Int64).toInt = 1 from rfl]; omega), e, show (1 : Int64).toInt = 1 from rfl]
      omega
theorem q_i32_mul {a b : Int32} (h1 : -2147483648 ≤ a.toInt * b.toInt) (h2 : a.toInt * b.toInt ≤ 2147483647) : (a * b).toInt = a.toInt * b.toInt := by
  rw [Int32.toInt_mul]; exact Int.bmod_eq_of_le (by omega) (by omega)
theorem fd8_32 {y : Int32} (h1 : -1000000000 ≤ y.toInt) (h2 : y.toInt ≤ 1000000000) : ∃ q, f_J_floorDiv_III y 8 = some q ∧ q.toInt = y.toInt / 8 := by
  have e := d8_32 h1 h2
  have m1 : (y / 8 * 8).toInt = (y / 8).toInt * 8 := q_i32_mul (b := 8) (by rw [e, show (8 : Int32).toInt = 8 from rfl]; split <;> omega) (by rw [e, show (8 : Int32).toInt = 8 from rfl]; split <;> omega)
  show ∃ q, (if 0 ≤ y ^^^ 8 then some (y / 8) else if y / 8 * 8 = y then some (y / 8) else some (y / 8 - 1)) = some q ∧ _
  by_cases c : 0 ≤ y.toInt
  · rw [if_pos ((xs32 y 8 (by decide)).mpr c)]
    refine ⟨_, rfl, ?_⟩
    rw [e, if_pos c]
  · rw [if_neg (fun q => c ((xs32 y 8 (by decide)).mp q))]
    rw [if_neg c] at e
    by_cases d : y / 8 * 8 = y
    · rw [if_pos d]
      refine ⟨_, rfl, ?_⟩
      have k := congrArg Int32.toInt d
      rw [m1, e] at k
      rw [e]
      omega
    · rw [if_neg d]
      refine ⟨_, rfl, ?_⟩
      have k : ¬ (y / 8 * 8).toInt = y.toInt := fun q => d (Int32.toInt_inj.mp q)
      rw [m1, e] at k
      rw [q_i32_sub (by rw [e, show (1 : Int32).toInt = 1 from rfl]; omega) (by rw [e, show (1 : Int32).toInt = 1 from rfl]; omega), e, show (1 : Int32).toInt = 1 from rfl]
      omega
theorem fd2_32 {y : Int32} (h1 : -1000000000 ≤ y.toInt) (h2 : y.toInt ≤ 1000000000) : ∃ q, f_J_floorDiv_III y 2 = some q ∧ q.toInt = y.toInt / 2 := by
  have e := d2_32 h1 h2
  have m1 : (y / 2 * 2).toInt = (y / 2).toInt * 2 := q_i32_mul (b := 2) (by rw [e, show (2 : Int32).toInt = 2 from rfl]; split <;> omega) (by rw [e, show (2 : Int32).toInt = 2 from rfl]; split <;> omega)
  show ∃ q, (if 0 ≤ y ^^^ 2 then some (y / 2) else if y / 2 * 2 = y then some (y / 2) else some (y / 2 - 1)) = some q ∧ _
  by_cases c : 0 ≤ y.toInt
  · rw [if_pos ((xs32 y 2 (by decide)).mpr c)]
    refine ⟨_, rfl, ?_⟩
    rw [e, if_pos c]
  · rw [if_neg (fun q => c ((xs32 y 2 (by decide)).mp q))]
    rw [if_neg c] at e
    by_cases d : y / 2 * 2 = y
    · rw [if_pos d]
      refine ⟨_, rfl, ?_⟩
      have k := congrArg Int32.toInt d
      rw [m1, e] at k
      rw [e]
      omega
    · rw [if_neg d]
      refine ⟨_, rfl, ?_⟩
      have k : ¬ (y / 2 * 2).toInt = y.toInt := fun q => d (Int32.toInt_inj.mp q)
      rw [m1, e] at k
      rw [q_i32_sub (by rw [e, show (1 : Int32).toInt = 1 from rfl]; omega) (by rw [e, show (1 : Int32).toInt = 1 from rfl]; omega), e, show (1 : Int32).toInt = 1 from rfl]
      omega
