-- what is still wanting; each goes to a part of its own when it is proved
theorem s_nan : sm_nan := sorry
theorem s_instr : sm_instr Rel := sorry
theorem s_spawn : sm_spawn Rel := sorry
theorem s_set : sm_set Rel := sorry
theorem s_get : sm_get Rel := sorry
theorem s_run : sm_run Rel := sorry
theorem s_tick : sm_tick Rel := sorry
theorem s_change : sm_change Rel := sorry
theorem s_changes : sm_changes Rel := sorry
theorem s_message : sm_message Rel := sorry
theorem la_pure : ∃ Rel, la_Sim Rel ∧ Rel la_g0 la_t0 := ⟨Rel, ⟨s_nan, s_wall, s_instr, s_spawn, s_remove, s_set, s_get, s_setGlobal, s_global, s_run, s_tick, s_change, s_count, s_changes, s_message⟩, Rel_start⟩
