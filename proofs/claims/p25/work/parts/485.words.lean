theorem km_L_152 : Cond.methodLink RL 152 yX4_isSame ∈ wAll := kAll 451 (by decide +kernel) (by decide +kernel)
theorem kj_X4_isSame : Cond.instanceMethod yX4_isSame ∈ wAll := kAll 452 (by decide +kernel) (by decide +kernel)
theorem ks_X4_isSame : Cond.selects RX4 yX4_isSame yX4_isSame ∈ wAll := kAll 453 (by decide +kernel) (by decide +kernel)
theorem kl_L_152 : gLkV RL 152 RX4 yX4_isSame cX4_isSame 9 (some .boolean) 1 := ⟨km_L_152, kj_X4_isSame, ks_X4_isSame, ki_X4, kc_X4_isSame, by decide +kernel⟩
