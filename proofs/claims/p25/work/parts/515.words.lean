theorem kC_L_29 : Cond.classLink RL 29 RX3 ∈ wAll := kAll 24 (by decide +kernel) (by decide +kernel)
theorem kN_X3 : Cond.instantiable RX3 10 ∈ wAll := kAll 25 (by decide +kernel) (by decide +kernel)
theorem kj_X3_init : Cond.instanceMethod yX3_init ∈ wAll := kAll 27 (by decide +kernel) (by decide +kernel)
theorem kc_X3_init : Cond.code yX3_init cX3_init 2 none ∈ wAll := kAll 28 (by decide +kernel) (by decide +kernel)
theorem km_L_110 : Cond.methodLink RL 110 yX3_init ∈ wAll := kAll 26 (by decide +kernel) (by decide +kernel)
theorem km_L_111 : Cond.methodLink RL 111 yL_build ∈ wAll := kAll 554 (by decide +kernel) (by decide +kernel)
theorem kt_L_build : Cond.static yL_build ∈ wAll := kAll 555 (by decide +kernel) (by decide +kernel)
theorem kl_L_111 : gLkS RL 111 yL_build cL_build 6 (some (.object "StreetOrgansLaw$Sim")) 2 := ⟨km_L_111, kt_L_build, ki_L, kc_L_build, by decide +kernel⟩
