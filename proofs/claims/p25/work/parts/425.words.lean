theorem km_L_115 : Cond.methodLink RL 115 yX3_pipe ∈ wAll := kAll 301 (by decide +kernel) (by decide +kernel)
theorem kl_L_115 : gLkV RL 115 RX3 yX3_pipe cX3_pipe 3 (some .int) 2 := ⟨km_L_115, kj_X3_pipe, ks_X3_pipe, ki_X3, kc_X3_pipe, by decide +kernel⟩
theorem km_L_131 : Cond.methodLink RL 131 Lib.Math.abs.name ∈ wAll := kAll 602 (by decide +kernel) (by decide +kernel)
