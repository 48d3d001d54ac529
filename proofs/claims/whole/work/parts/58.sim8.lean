set_option maxHeartbeats 1000000 in
theorem sound_0 (a b c : Int32) : f_P_isSound 0 a b c = f_N_fits 0 a b c := by
  have e0 : f_N_in 0 1 9 = some 0 := by decide
  have e1 : f_N_in 0 0 8 = some 1 := by decide
  have e2 : f_N_in 0 0 16 = some 1 := by decide
  have e3 : f_N_in 0 1 5 = some 0 := by decide
  have hd : f_N_in b (-16000) 16000 = if b < -16000 then some 0 else if 16000 < b then some 0 else some 1 := rfl
  rcases in_01 c 0 23 with hc | hc <;> by_cases c1 : b < -16000 <;> by_cases c2 : 16000 < b <;> simp [f_P_isSound, f_N_fits, f_N_fits_22, f_N_fits_27, f_N_fits_57, f_N_fits_62, f_N_fits_89, f_N_fits_104, f_N_fits_125, f_N_fits_152, f_N_fits_172, qs_pb, qs_bo, below24, below16, below14, below6, e0, e1, e2, e3, hc, hd, c1, c2]
set_option maxHeartbeats 1000000 in
theorem sound_1 (a b c : Int32) : f_P_isSound 1 a b c = f_N_fits 1 a b c := by
  have e0 : f_N_in 1 1 9 = some 1 := by decide
  have e1 : f_N_in 1 0 8 = some 1 := by decide
  have e2 : f_N_in 1 0 16 = some 1 := by decide
  have e3 : f_N_in 1 1 5 = some 1 := by decide
  rcases in_01 a 0 23 with ha | ha <;> rcases in_01 c 0 23 with hc | hc <;> rcases in_01 b 0 23 with hb | hb <;> simp [f_P_isSound, f_N_fits, f_N_fits_22, f_N_fits_27, f_N_fits_57, f_N_fits_62, f_N_fits_89, f_N_fits_104, f_N_fits_125, f_N_fits_152, f_N_fits_172, qs_pb, qs_bo, below24, below16, below14, below6, e0, e1, e2, e3, ha, hc, hb]
set_option maxHeartbeats 1000000 in
theorem sound_2 (a b c : Int32) : f_P_isSound 2 a b c = f_N_fits 2 a b c := by
  have e0 : f_N_in 2 1 9 = some 1 := by decide
  have e1 : f_N_in 2 0 8 = some 1 := by decide
  have e2 : f_N_in 2 0 16 = some 1 := by decide
  have e3 : f_N_in 2 1 5 = some 1 := by decide
  rcases in_01 a 0 23 with ha | ha <;> rcases in_01 c 0 23 with hc | hc <;> rcases in_01 b 0 23 with hb | hb <;> simp [f_P_isSound, f_N_fits, f_N_fits_22, f_N_fits_27, f_N_fits_57, f_N_fits_62, f_N_fits_89, f_N_fits_104, f_N_fits_125, f_N_fits_152, f_N_fits_172, qs_pb, qs_bo, below24, below16, below14, below6, e0, e1, e2, e3, ha, hc, hb]
set_option maxHeartbeats 1000000 in
theorem sound_3 (a b c : Int32) : f_P_isSound 3 a b c = f_N_fits 3 a b c := by
  have e0 : f_N_in 3 1 9 = some 1 := by decide
  have e1 : f_N_in 3 0 8 = some 1 := by decide
  have e2 : f_N_in 3 0 16 = some 1 := by decide
  have e3 : f_N_in 3 1 5 = some 1 := by decide
  rcases in_01 a 0 23 with ha | ha <;> rcases in_01 c 0 23 with hc | hc <;> rcases in_01 b 0 23 with hb | hb <;> simp [f_P_isSound, f_N_fits, f_N_fits_22, f_N_fits_27, f_N_fits_57, f_N_fits_62, f_N_fits_89, f_N_fits_104, f_N_fits_125, f_N_fits_152, f_N_fits_172, qs_pb, qs_bo, below24, below16, below14, below6, e0, e1, e2, e3, ha, hc, hb]
set_option maxHeartbeats 1000000 in
theorem sound_4 (a b c : Int32) : f_P_isSound 4 a b c = f_N_fits 4 a b c := by
  have e0 : f_N_in 4 1 9 = some 1 := by decide
  have e1 : f_N_in 4 0 8 = some 1 := by decide
  have e2 : f_N_in 4 0 16 = some 1 := by decide
  have e3 : f_N_in 4 1 5 = some 1 := by decide
  rcases in_01 a 0 23 with ha | ha <;> rcases in_01 c 0 23 with hc | hc <;> rcases in_01 b 0 23 with hb | hb <;> simp [f_P_isSound, f_N_fits, f_N_fits_22, f_N_fits_27, f_N_fits_57, f_N_fits_62, f_N_fits_89, f_N_fits_104, f_N_fits_125, f_N_fits_152, f_N_fits_172, qs_pb, qs_bo, below24, below16, below14, below6, e0, e1, e2, e3, ha, hc, hb]
set_option maxHeartbeats 1000000 in
theorem sound_5 (a b c : Int32) : f_P_isSound 5 a b c = f_N_fits 5 a b c := by
  have e0 : f_N_in 5 1 9 = some 1 := by decide
  have e1 : f_N_in 5 0 8 = some 1 := by decide
  have e2 : f_N_in 5 0 16 = some 1 := by decide
  have e3 : f_N_in 5 1 5 = some 1 := by decide
  rcases in_01 a 0 23 with ha | ha <;> rcases in_01 c 0 23 with hc | hc <;> rcases in_01 b 0 23 with hb | hb <;> simp [f_P_isSound, f_N_fits, f_N_fits_22, f_N_fits_27, f_N_fits_57, f_N_fits_62, f_N_fits_89, f_N_fits_104, f_N_fits_125, f_N_fits_152, f_N_fits_172, qs_pb, qs_bo, below24, below16, below14, below6, e0, e1, e2, e3, ha, hc, hb]
set_option maxHeartbeats 1000000 in
theorem sound_6 (a b c : Int32) : f_P_isSound 6 a b c = f_N_fits 6 a b c := by
  have e0 : f_N_in 6 1 9 = some 1 := by decide
  have e1 : f_N_in 6 0 8 = some 1 := by decide
  have e2 : f_N_in 6 0 16 = some 1 := by decide
  have e3 : f_N_in 6 1 5 = some 0 := by decide
  rcases in_01 a 0 23 with ha | ha <;> rcases in_01 c 0 23 with hc | hc <;> simp [f_P_isSound, f_N_fits, f_N_fits_22, f_N_fits_27, f_N_fits_57, f_N_fits_62, f_N_fits_89, f_N_fits_104, f_N_fits_125, f_N_fits_152, f_N_fits_172, qs_pb, qs_bo, below24, below16, below14, below6, e0, e1, e2, e3, ha, hc]
set_option maxHeartbeats 1000000 in
theorem sound_7 (a b c : Int32) : f_P_isSound 7 a b c = f_N_fits 7 a b c := by
  have e0 : f_N_in 7 1 9 = some 1 := by decide
  have e1 : f_N_in 7 0 8 = some 1 := by decide
  have e2 : f_N_in 7 0 16 = some 1 := by decide
  have e3 : f_N_in 7 1 5 = some 0 := by decide
  rcases in_01 a 0 23 with ha | ha <;> rcases in_01 c 0 23 with hc | hc <;> rcases in_01 b 0 15 with hb | hb <;> simp [f_P_isSound, f_N_fits, f_N_fits_22, f_N_fits_27, f_N_fits_57, f_N_fits_62, f_N_fits_89, f_N_fits_104, f_N_fits_125, f_N_fits_152, f_N_fits_172, qs_pb, qs_bo, below24, below16, below14, below6, e0, e1, e2, e3, ha, hc, hb]
set_option maxHeartbeats 1000000 in
theorem sound_8 (a b c : Int32) : f_P_isSound 8 a b c = f_N_fits 8 a b c := by
  have e0 : f_N_in 8 1 9 = some 1 := by decide
  have e1 : f_N_in 8 0 8 = some 1 := by decide
  have e2 : f_N_in 8 0 16 = some 1 := by decide
  have e3 : f_N_in 8 1 5 = some 0 := by decide
  rcases in_01 a 0 23 with ha | ha <;> rcases in_01 c 0 23 with hc | hc <;> rcases in_01 b 0 15 with hb | hb <;> simp [f_P_isSound, f_N_fits, f_N_fits_22, f_N_fits_27, f_N_fits_57, f_N_fits_62, f_N_fits_89, f_N_fits_104, f_N_fits_125, f_N_fits_152, f_N_fits_172, qs_pb, qs_bo, below24, below16, below14, below6, e0, e1, e2, e3, ha, hc, hb]
set_option maxHeartbeats 1000000 in
theorem sound_9 (a b c : Int32) : f_P_isSound 9 a b c = f_N_fits 9 a b c := by
  have e0 : f_N_in 9 1 9 = some 1 := by decide
  have e1 : f_N_in 9 0 8 = some 0 := by decide
  have e2 : f_N_in 9 0 16 = some 1 := by decide
  have e3 : f_N_in 9 1 5 = some 0 := by decide
  rcases in_01 a 0 23 with ha | ha <;> rcases in_01 b 0 13 with hb | hb <;> simp [f_P_isSound, f_N_fits, f_N_fits_22, f_N_fits_27, f_N_fits_57, f_N_fits_62, f_N_fits_89, f_N_fits_104, f_N_fits_125, f_N_fits_152, f_N_fits_172, qs_pb, qs_bo, below24, below16, below14, below6, e0, e1, e2, e3, ha, hb]
set_option maxHeartbeats 1000000 in
theorem sound_10 (a b c : Int32) : f_P_isSound 10 a b c = f_N_fits 10 a b c := by
  have e0 : f_N_in 10 1 9 = some 0 := by decide
  have e1 : f_N_in 10 0 8 = some 0 := by decide
  have e2 : f_N_in 10 0 16 = some 1 := by decide
  have e3 : f_N_in 10 1 5 = some 0 := by decide
  rcases in_01 b 0 13 with hb | hb <;> simp [f_P_isSound, f_N_fits, f_N_fits_22, f_N_fits_27, f_N_fits_57, f_N_fits_62, f_N_fits_89, f_N_fits_104, f_N_fits_125, f_N_fits_152, f_N_fits_172, qs_pb, qs_bo, below24, below16, below14, below6, e0, e1, e2, e3, hb]
set_option maxHeartbeats 1000000 in
theorem sound_11 (a b c : Int32) : f_P_isSound 11 a b c = f_N_fits 11 a b c := by
  have e0 : f_N_in 11 1 9 = some 0 := by decide
  have e1 : f_N_in 11 0 8 = some 0 := by decide
  have e2 : f_N_in 11 0 16 = some 1 := by decide
  have e3 : f_N_in 11 1 5 = some 0 := by decide
  rcases in_01 a 0 5 with ha | ha <;> simp [f_P_isSound, f_N_fits, f_N_fits_22, f_N_fits_27, f_N_fits_57, f_N_fits_62, f_N_fits_89, f_N_fits_104, f_N_fits_125, f_N_fits_152, f_N_fits_172, qs_pb, qs_bo, below24, below16, below14, below6, e0, e1, e2, e3, ha]
set_option maxHeartbeats 1000000 in
theorem sound_12 (a b c : Int32) : f_P_isSound 12 a b c = f_N_fits 12 a b c := by
  have e0 : f_N_in 12 1 9 = some 0 := by decide
  have e1 : f_N_in 12 0 8 = some 0 := by decide
  have e2 : f_N_in 12 0 16 = some 1 := by decide
  have e3 : f_N_in 12 1 5 = some 0 := by decide
  rcases in_01 c 0 23 with hc | hc <;> simp [f_P_isSound, f_N_fits, f_N_fits_22, f_N_fits_27, f_N_fits_57, f_N_fits_62, f_N_fits_89, f_N_fits_104, f_N_fits_125, f_N_fits_152, f_N_fits_172, qs_pb, qs_bo, below24, below16, below14, below6, e0, e1, e2, e3, hc]
set_option maxHeartbeats 1000000 in
theorem sound_13 (a b c : Int32) : f_P_isSound 13 a b c = f_N_fits 13 a b c := by
  have e0 : f_N_in 13 1 9 = some 0 := by decide
  have e1 : f_N_in 13 0 8 = some 0 := by decide
  have e2 : f_N_in 13 0 16 = some 1 := by decide
  have e3 : f_N_in 13 1 5 = some 0 := by decide
  rcases in_01 a 0 23 with ha | ha <;> simp [f_P_isSound, f_N_fits, f_N_fits_22, f_N_fits_27, f_N_fits_57, f_N_fits_62, f_N_fits_89, f_N_fits_104, f_N_fits_125, f_N_fits_152, f_N_fits_172, qs_pb, qs_bo, below24, below16, below14, below6, e0, e1, e2, e3, ha]
set_option maxHeartbeats 1000000 in
theorem sound_14 (a b c : Int32) : f_P_isSound 14 a b c = f_N_fits 14 a b c := by
  have e0 : f_N_in 14 1 9 = some 0 := by decide
  have e1 : f_N_in 14 0 8 = some 0 := by decide
  have e2 : f_N_in 14 0 16 = some 1 := by decide
  have e3 : f_N_in 14 1 5 = some 0 := by decide
  rcases in_01 a 0 23 with ha | ha <;> rcases in_01 c 0 23 with hc | hc <;> simp [f_P_isSound, f_N_fits, f_N_fits_22, f_N_fits_27, f_N_fits_57, f_N_fits_62, f_N_fits_89, f_N_fits_104, f_N_fits_125, f_N_fits_152, f_N_fits_172, qs_pb, qs_bo, below24, below16, below14, below6, e0, e1, e2, e3, ha, hc]
set_option maxHeartbeats 1000000 in
theorem sound_15 (a b c : Int32) : f_P_isSound 15 a b c = f_N_fits 15 a b c := by
  have e0 : f_N_in 15 1 9 = some 0 := by decide
  have e1 : f_N_in 15 0 8 = some 0 := by decide
  have e2 : f_N_in 15 0 16 = some 1 := by decide
  have e3 : f_N_in 15 1 5 = some 0 := by decide
  rcases in_01 c 0 23 with hc | hc <;> simp [f_P_isSound, f_N_fits, f_N_fits_22, f_N_fits_27, f_N_fits_57, f_N_fits_62, f_N_fits_89, f_N_fits_104, f_N_fits_125, f_N_fits_152, f_N_fits_172, qs_pb, qs_bo, below24, below16, below14, below6, e0, e1, e2, e3, hc]
set_option maxHeartbeats 1000000 in
theorem sound_16 (a b c : Int32) : f_P_isSound 16 a b c = f_N_fits 16 a b c := by
  have e0 : f_N_in 16 1 9 = some 0 := by decide
  have e1 : f_N_in 16 0 8 = some 0 := by decide
  have e2 : f_N_in 16 0 16 = some 1 := by decide
  have e3 : f_N_in 16 1 5 = some 0 := by decide
  simp [f_P_isSound, f_N_fits, f_N_fits_22, f_N_fits_27, f_N_fits_57, f_N_fits_62, f_N_fits_89, f_N_fits_104, f_N_fits_125, f_N_fits_152, f_N_fits_172, qs_pb, qs_bo, below24, below16, below14, below6, e0, e1, e2, e3]
