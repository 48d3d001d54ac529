set_option maxHeartbeats 1000000 in
theorem sound_no {o : Int32} (a b c : Int32) (n : ∀ j : Nat, j < 17 → ¬ o = nI j) (e : f_N_in o 0 16 = some 0) : f_P_isSound o a b c = some 0 ∧ f_N_fits o a b c = some 0 := by
  have n0 : ¬ o = 0 := n 0 (by decide)
  have n1 : ¬ o = 1 := n 1 (by decide)
  have n2 : ¬ o = 2 := n 2 (by decide)
  have n3 : ¬ o = 3 := n 3 (by decide)
  have n4 : ¬ o = 4 := n 4 (by decide)
  have n5 : ¬ o = 5 := n 5 (by decide)
  have n6 : ¬ o = 6 := n 6 (by decide)
  have n7 : ¬ o = 7 := n 7 (by decide)
  have n8 : ¬ o = 8 := n 8 (by decide)
  have n9 : ¬ o = 9 := n 9 (by decide)
  have n10 : ¬ o = 10 := n 10 (by decide)
  have n11 : ¬ o = 11 := n 11 (by decide)
  have n12 : ¬ o = 12 := n 12 (by decide)
  have n13 : ¬ o = 13 := n 13 (by decide)
  have n14 : ¬ o = 14 := n 14 (by decide)
  have n15 : ¬ o = 15 := n 15 (by decide)
  have n16 : ¬ o = 16 := n 16 (by decide)
  refine ⟨by simp [f_P_isSound, n0, n1, n2, n3, n4, n5, n6, n7, n8, n9, n10, n11, n12, n13, n14, n15, n16], ?_⟩
  rcases in_01 o 1 9 with h1 | h1 <;> rcases in_01 o 0 8 with h2 | h2 <;> simp [f_P_isSound, f_N_fits, f_N_fits_22, f_N_fits_27, f_N_fits_57, f_N_fits_62, qs_pb, h1, h2, e, n0, n1, n2, n3, n4, n5, n6, n7, n8, n9, n10, n11, n12, n13, n14, n15, n16]
theorem sound_eq (o a b c : Int32) : f_P_isSound o a b c = f_N_fits o a b c := by
  rcases is_in o (b := 16) (by decide) with ⟨e, n⟩ | ⟨j, hj, ex, -⟩
  · obtain ⟨q1, q2⟩ := sound_no a b c n e
    rw [q1, q2]
  · subst ex
    match j, hj with
    | 0, _ => exact sound_0 a b c
    | 1, _ => exact sound_1 a b c
    | 2, _ => exact sound_2 a b c
    | 3, _ => exact sound_3 a b c
    | 4, _ => exact sound_4 a b c
    | 5, _ => exact sound_5 a b c
    | 6, _ => exact sound_6 a b c
    | 7, _ => exact sound_7 a b c
    | 8, _ => exact sound_8 a b c
    | 9, _ => exact sound_9 a b c
    | 10, _ => exact sound_10 a b c
    | 11, _ => exact sound_11 a b c
    | 12, _ => exact sound_12 a b c
    | 13, _ => exact sound_13 a b c
    | 14, _ => exact sound_14 a b c
    | 15, _ => exact sound_15 a b c
    | 16, _ => exact sound_16 a b c
    | k + 17, hj => exact absurd hj (by omega)
