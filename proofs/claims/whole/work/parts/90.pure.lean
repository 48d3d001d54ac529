theorem la_pure : ∃ Rel, la_Sim Rel ∧ Rel la_g0 la_t0 := ⟨Rel, sorry, Rel_start⟩
