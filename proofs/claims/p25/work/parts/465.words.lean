theorem km_L_118 : Cond.methodLink RL 118 yX3_count ∈ wAll := kAll 332 (by decide +kernel) (by decide +kernel)
theorem kl_L_118 : gLkV RL 118 RX3 yX3_count cX3_count 2 (some .int) 1 := ⟨km_L_118, kj_X3_count, ks_X3_count, ki_X3, kc_X3_count, by decide +kernel⟩
