theorem km_L_124 : Cond.methodLink RL 124 yX3_digest ∈ wAll := kAll 410 (by decide +kernel) (by decide +kernel)
theorem kj_X3_digest : Cond.instanceMethod yX3_digest ∈ wAll := kAll 411 (by decide +kernel) (by decide +kernel)
theorem ks_X3_digest : Cond.selects RX3 yX3_digest yX3_digest ∈ wAll := kAll 412 (by decide +kernel) (by decide +kernel)
theorem kl_L_124 : gLkV RL 124 RX3 yX3_digest cX3_digest 5 (some .long) 0 := ⟨km_L_124, kj_X3_digest, ks_X3_digest, ki_X3, kc_X3_digest, by decide +kernel⟩
theorem km_L_128 : Cond.methodLink RL 128 yX3_foresee ∈ wAll := kAll 397 (by decide +kernel) (by decide +kernel)
theorem kj_X3_foresee : Cond.instanceMethod yX3_foresee ∈ wAll := kAll 398 (by decide +kernel) (by decide +kernel)
theorem ks_X3_foresee : Cond.selects RX3 yX3_foresee yX3_foresee ∈ wAll := kAll 399 (by decide +kernel) (by decide +kernel)
theorem kl_L_128 : gLkV RL 128 RX3 yX3_foresee cX3_foresee 3 (some .int) 2 := ⟨km_L_128, kj_X3_foresee, ks_X3_foresee, ki_X3, kc_X3_foresee, by decide +kernel⟩
