/-! The law's turn: one call of both -/
def rW (σ μ : gSt) : gSt := fun k => if k < 49 then σ k else μ (k - 49)
def cL (ad : Nat → Nat) (cy : Nat → ClassId) (k : Nat) (r : Nat → Int32) : va_E := if k < 49 then cW ad cy k r else cM (fun j => ad (49 + j)) cy (k - 49) r
section LW
variable {ad : Nat → Nat} {cy : Nat → ClassId} {σ σ' μ ν : gSt}
theorem gSubL : gSub 67 ad (cL ad cy) 0 49 ad (cW ad cy) := ⟨by omega, fun j hj => by
  rw [Nat.zero_add]
  exact ⟨rfl, fun r => by unfold cL; rw [if_pos hj]⟩⟩
theorem gSubLC : gSub 67 ad (cL ad cy) 0 48 ad (cC ad cy) := ⟨by omega, fun j hj => by
  rw [Nat.zero_add]
  exact ⟨rfl, fun r => by unfold cL cW; rw [if_pos (by omega), if_neg (by omega)]⟩⟩
theorem gSubLM : gSub 67 ad (cL ad cy) 49 18 (fun j => ad (49 + j)) (cM (fun j => ad (49 + j)) cy) := ⟨by omega, fun j hj => ⟨rfl, fun r => by
  unfold cL
  rw [if_neg (by omega), show 49 + j - 49 = j by omega]⟩⟩
theorem lL_O : gOb (cL ad cy) 0 3 := fun r => ⟨_, rfl⟩
theorem lL_M : gOb (cL ad cy) 49 5 := fun r => ⟨_, rfl⟩
theorem lL_out : gAL (cL ad cy) (cy 4) 48 1 := fun r => rfl
theorem rW_M : (fun j => rW σ μ (49 + j)) = μ := by
  funext j
  unfold rW
  rw [if_neg (by omega), show 49 + j - 49 = j by omega]
theorem rW_C {j : Nat} (h : j < 49) : rW σ μ (0 + j) = σ j := by
  unfold rW
  rw [Nat.zero_add, if_pos h]
theorem rW_b1 {k : Nat} (h : ∀ k, k < 49 → σ' k = ν k) : gBack (rW σ μ) 0 49 σ' k = rW ν μ k := by
  unfold gBack rW
  by_cases hk : k < 49
  · rw [if_pos ⟨Nat.zero_le _, by omega⟩, if_pos hk, Nat.sub_zero]
    exact h k hk
  · rw [if_neg (by omega), if_neg hk, if_neg hk]
theorem rW_b2 {k : Nat} (hk9 : k < 67) : gBack (rW σ μ) 49 18 ν k = rW σ ν k := by
  unfold gBack rW
  by_cases hk : k < 49
  · rw [if_neg (by omega), if_pos hk, if_pos hk]
  · rw [if_pos ⟨by omega, by omega⟩, if_neg hk]
theorem rW_b3 {k : Nat} (h : ∀ k, k < 48 → σ' k = ν k) : gBack (rW σ μ) 0 48 σ' k = rW (fun k => if k < 48 then ν k else σ k) μ k := by
  show (if 0 ≤ k ∧ k < 0 + 48 then σ' (k - 0) else if k < 49 then σ k else μ (k - 49)) = if k < 49 then (if k < 48 then ν k else σ k) else μ (k - 49)
  by_cases hk : k < 48
  · rw [if_pos ⟨Nat.zero_le _, by omega⟩, if_pos (by omega), Nat.sub_zero, if_pos hk]
    exact h k hk
  · rw [if_neg (by omega), if_neg hk]
theorem rW_b4 {k : Nat} (hk9 : k < 67) : gBack (rW σ μ) 0 48 (fun j => rW σ μ (0 + j)) k = rW σ μ k := by
  unfold gBack
  by_cases hk : k < 48
  · rw [if_pos ⟨Nat.zero_le _, by omega⟩, Nat.sub_zero]
    show rW σ μ (0 + k) = rW σ μ k
    rw [Nat.zero_add]
  · rw [if_neg (by omega)]
theorem rM_48 {th a : Int32} (h : ∀ k, k < 48 → σ k = σ' k) : rM σ th a = rM σ' th a := by
  funext k j
  have g : ∀ (P : Prop) [Decidable P] (i i2 : Nat), (P → i < 48) → (if P then σ i i2 else 0) = if P then σ' i i2 else 0 := fun P _ i i2 hi => by
    by_cases q : P
    · rw [if_pos q, if_pos q, h _ (hi q)]
    · rw [if_neg q, if_neg q]
  simp only [rM]
  rw [g (j < 6) (14 + 3 * j) 2 (by omega), g (j < 96) (15 + 3 * (j / 16)) (j % 16) (by omega), g (j < 8) (32 + 2 * j) 1 (by omega), g (j < 8) (32 + 2 * j) 2 (by omega), g (j < 8) (32 + 2 * j) 3 (by omega), g (j < 48) (33 + 2 * (j / 6)) (j % 6) (by omega), g (j < 7) 13 j (by omega), h 0 (by omega)]
  by_cases q : k < 18
  · rw [h (k - 7) (by omega)]
  · simp only [if_neg q]
theorem Inv_48 {N T S d : Nat} (h : ∀ k, k < 48 → σ k = σ' k) (hI : Inv σ N T S d) : Inv σ' N T S d := by
  obtain ⟨hT, hT6, hS, hS8, hd, hdN, hN6, hTu, hSt, hPi, hZ, hHd⟩ := hI
  rw [h 0 (by omega)] at hT hS hd
  refine ⟨hT, hT6, hS, hS8, hd, hdN, hN6, fun t ht => tun_cg (hTu t ht) (fun k h1 h2 => (h k (by omega)).symm), fun z hz => ?_, fun i hi => pip_cg (hPi i hi) (by rw [h _ (by omega)]) (by rw [h _ (by omega)]) (by rw [h _ (by omega)]) (by rw [h _ (by omega)]), fun z h1 h2 t ht => ?_, fun z hz t h1 h2 => ?_⟩
  · have := hSt z hz
    unfold strI at this ⊢
    rw [← h _ (by omega), ← h (33 + 2 * z) (by omega)]
    exact this
  · rw [← h _ (by omega)]
    exact hZ z h1 h2 t ht
  · rw [← h _ (by omega)]
    exact hHd z hz t h1 h2
theorem kp_48 {N : Nat} (h : ∀ k, k < 48 → σ k = σ' k) (hK : gKp σ N) : gKp σ' N := by
  obtain ⟨T, S, d, hI⟩ := hK
  exact ⟨T, S, d, Inv_48 h hI⟩
end LW
def gLkH (own : String) (index : Nat) (y : MethodName) (b : ByteArray) (nL : Nat) (hh : List (Nat × Nat × Nat × Nat)) (nA : Nat) : Prop := Cond.methodLink own index y ∈ wAll ∧ Cond.static y ∈ wAll ∧ Cond.initialized y.cls ∈ wAll ∧ Cond.codeWith y b nL (some .int) hh ∈ wAll ∧ y.cls ≠ "java/lang/invoke/MethodHandle" ∧ y.cls ≠ "java/lang/invoke/VarHandle" ∧ (parseMethodDescriptor y.desc).map (fun d => d.parameters.length) = some nA
theorem km_L_79 : Cond.methodLink RL 79 yL_barrel ∈ wAll := kAll 239 (by decide +kernel) (by decide +kernel)
theorem kt_L_barrel : Cond.static yL_barrel ∈ wAll := kAll 240 (by decide +kernel) (by decide +kernel)
theorem ki_L : Cond.initialized RL ∈ wAll := kAll 19 (by decide +kernel) (by decide +kernel)
theorem kc_L_barrel : Cond.codeWith yL_barrel cL_barrel 3 (some .int) [(0, 8, 11, 13)] ∈ wAll := kAll 241 (by decide +kernel) (by decide +kernel)
theorem kl_L_79 : gLkH RL 79 yL_barrel cL_barrel 3 [(0, 8, 11, 13)] 2 := ⟨km_L_79, kt_L_barrel, ki_L, kc_L_barrel, by decide +kernel⟩
theorem km_L_84 : Cond.methodLink RL 84 yX5_barrel ∈ wAll := kAll 630 (by decide +kernel) (by decide +kernel)
theorem kj_X5_barrel : Cond.instanceMethod yX5_barrel ∈ wAll := kAll 631 (by decide +kernel) (by decide +kernel)
theorem ks_X5_barrel : Cond.selects RX5 yX5_barrel yX5_barrel ∈ wAll := kAll 632 (by decide +kernel) (by decide +kernel)
theorem kl_L_84 : gLkV RL 84 RX5 yX5_barrel cX5_barrel 1 (some .int) 0 := ⟨km_L_84, kj_X5_barrel, ks_X5_barrel, ki_X5, kc_X5_barrel, by decide +kernel⟩
theorem km_L_85 : Cond.methodLink RL 85 yX5_thrown ∈ wAll := kAll 626 (by decide +kernel) (by decide +kernel)
theorem kj_X5_thrown : Cond.instanceMethod yX5_thrown ∈ wAll := kAll 627 (by decide +kernel) (by decide +kernel)
theorem ks_X5_thrown : Cond.selects RX5 yX5_thrown yX5_thrown ∈ wAll := kAll 628 (by decide +kernel) (by decide +kernel)
theorem kl_L_85 : gLkV RL 85 RX5 yX5_thrown cX5_thrown 1 (some .int) 0 := ⟨km_L_85, kj_X5_thrown, ks_X5_thrown, ki_X5, kc_X5_thrown, by decide +kernel⟩
theorem km_L_88 : Cond.methodLink RL 88 yL_pin ∈ wAll := kAll 315 (by decide +kernel) (by decide +kernel)
theorem kt_L_pin : Cond.static yL_pin ∈ wAll := kAll 316 (by decide +kernel) (by decide +kernel)
theorem kc_L_pin : Cond.codeWith yL_pin cL_pin 5 (some .int) [(0, 10, 13, 19), (0, 10, 17, 13)] ∈ wAll := kAll 317 (by decide +kernel) (by decide +kernel)
theorem kl_L_88 : gLkH RL 88 yL_pin cL_pin 5 [(0, 10, 13, 19), (0, 10, 17, 13)] 4 := ⟨km_L_88, kt_L_pin, ki_L, kc_L_pin, by decide +kernel⟩
theorem km_L_91 : Cond.methodLink RL 91 yX5_pin ∈ wAll := kAll 638 (by decide +kernel) (by decide +kernel)
theorem kj_X5_pin : Cond.instanceMethod yX5_pin ∈ wAll := kAll 639 (by decide +kernel) (by decide +kernel)
theorem ks_X5_pin : Cond.selects RX5 yX5_pin yX5_pin ∈ wAll := kAll 640 (by decide +kernel) (by decide +kernel)
theorem kl_L_91 : gLkV RL 91 RX5 yX5_pin cX5_pin 3 (some .int) 2 := ⟨km_L_91, kj_X5_pin, ks_X5_pin, ki_X5, kc_X5_pin, by decide +kernel⟩
theorem km_L_92 : Cond.methodLink RL 92 yL_note ∈ wAll := kAll 352 (by decide +kernel) (by decide +kernel)
theorem kt_L_note : Cond.static yL_note ∈ wAll := kAll 353 (by decide +kernel) (by decide +kernel)
theorem kc_L_note : Cond.codeWith yL_note cL_note 5 (some .int) [(0, 10, 13, 19)] ∈ wAll := kAll 354 (by decide +kernel) (by decide +kernel)
theorem kl_L_92 : gLkH RL 92 yL_note cL_note 5 [(0, 10, 13, 19)] 4 := ⟨km_L_92, kt_L_note, ki_L, kc_L_note, by decide +kernel⟩
theorem km_L_94 : Cond.methodLink RL 94 yX5_note ∈ wAll := kAll 652 (by decide +kernel) (by decide +kernel)
theorem kj_X5_note : Cond.instanceMethod yX5_note ∈ wAll := kAll 653 (by decide +kernel) (by decide +kernel)
theorem ks_X5_note : Cond.selects RX5 yX5_note yX5_note ∈ wAll := kAll 654 (by decide +kernel) (by decide +kernel)
theorem kl_L_94 : gLkV RL 94 RX5 yX5_note cX5_note 3 (some .int) 2 := ⟨km_L_94, kj_X5_note, ks_X5_note, ki_X5, kc_X5_note, by decide +kernel⟩
theorem km_L_95 : Cond.methodLink RL 95 yL_street ∈ wAll := kAll 360 (by decide +kernel) (by decide +kernel)
theorem kt_L_street : Cond.static yL_street ∈ wAll := kAll 361 (by decide +kernel) (by decide +kernel)
theorem kc_L_street : Cond.codeWith yL_street cL_street 5 (some .int) [(0, 10, 13, 27), (0, 10, 17, 13)] ∈ wAll := kAll 362 (by decide +kernel) (by decide +kernel)
theorem kl_L_95 : gLkH RL 95 yL_street cL_street 5 [(0, 10, 13, 27), (0, 10, 17, 13)] 4 := ⟨km_L_95, kt_L_street, ki_L, kc_L_street, by decide +kernel⟩
theorem km_L_97 : Cond.methodLink RL 97 yX5_street ∈ wAll := kAll 656 (by decide +kernel) (by decide +kernel)
theorem kj_X5_street : Cond.instanceMethod yX5_street ∈ wAll := kAll 657 (by decide +kernel) (by decide +kernel)
theorem ks_X5_street : Cond.selects RX5 yX5_street yX5_street ∈ wAll := kAll 658 (by decide +kernel) (by decide +kernel)
theorem kl_L_97 : gLkV RL 97 RX5 yX5_street cX5_street 3 (some .int) 2 := ⟨km_L_97, kj_X5_street, ks_X5_street, ki_X5, kc_X5_street, by decide +kernel⟩
theorem km_L_98 : Cond.methodLink RL 98 yL_permit ∈ wAll := kAll 389 (by decide +kernel) (by decide +kernel)
theorem kt_L_permit : Cond.static yL_permit ∈ wAll := kAll 390 (by decide +kernel) (by decide +kernel)
theorem kc_L_permit : Cond.codeWith yL_permit cL_permit 5 (some .int) [(0, 10, 13, 19), (0, 10, 17, 27)] ∈ wAll := kAll 391 (by decide +kernel) (by decide +kernel)
theorem kl_L_98 : gLkH RL 98 yL_permit cL_permit 5 [(0, 10, 13, 19), (0, 10, 17, 27)] 4 := ⟨km_L_98, kt_L_permit, ki_L, kc_L_permit, by decide +kernel⟩
theorem km_L_100 : Cond.methodLink RL 100 yX5_permit ∈ wAll := kAll 663 (by decide +kernel) (by decide +kernel)
theorem kj_X5_permit : Cond.instanceMethod yX5_permit ∈ wAll := kAll 664 (by decide +kernel) (by decide +kernel)
theorem ks_X5_permit : Cond.selects RX5 yX5_permit yX5_permit ∈ wAll := kAll 665 (by decide +kernel) (by decide +kernel)
theorem kl_L_100 : gLkV RL 100 RX5 yX5_permit cX5_permit 4 (some .int) 2 := ⟨km_L_100, kj_X5_permit, ks_X5_permit, ki_X5, kc_X5_permit, by decide +kernel⟩
theorem km_L_101 : Cond.methodLink RL 101 yL_setDamp ∈ wAll := kAll 401 (by decide +kernel) (by decide +kernel)
theorem kt_L_setDamp : Cond.static yL_setDamp ∈ wAll := kAll 402 (by decide +kernel) (by decide +kernel)
theorem kc_L_setDamp : Cond.codeWith yL_setDamp cL_setDamp 5 (some .int) [(0, 10, 13, 19), (0, 10, 17, 27)] ∈ wAll := kAll 403 (by decide +kernel) (by decide +kernel)
theorem kl_L_101 : gLkH RL 101 yL_setDamp cL_setDamp 5 [(0, 10, 13, 19), (0, 10, 17, 27)] 4 := ⟨km_L_101, kt_L_setDamp, ki_L, kc_L_setDamp, by decide +kernel⟩
theorem km_L_103 : Cond.methodLink RL 103 yX5_setDamp ∈ wAll := kAll 671 (by decide +kernel) (by decide +kernel)
theorem kj_X5_setDamp : Cond.instanceMethod yX5_setDamp ∈ wAll := kAll 672 (by decide +kernel) (by decide +kernel)
theorem ks_X5_setDamp : Cond.selects RX5 yX5_setDamp yX5_setDamp ∈ wAll := kAll 673 (by decide +kernel) (by decide +kernel)
theorem kl_L_103 : gLkV RL 103 RX5 yX5_setDamp cX5_setDamp 4 (some .int) 2 := ⟨km_L_103, kj_X5_setDamp, ks_X5_setDamp, ki_X5, kc_X5_setDamp, by decide +kernel⟩
theorem km_L_104 : Cond.methodLink RL 104 yL_play ∈ wAll := kAll 410 (by decide +kernel) (by decide +kernel)
theorem kt_L_play : Cond.static yL_play ∈ wAll := kAll 411 (by decide +kernel) (by decide +kernel)
theorem kc_L_play : Cond.codeWith yL_play cL_play 5 (some .int) [(0, 10, 13, 19), (0, 10, 17, 13)] ∈ wAll := kAll 412 (by decide +kernel) (by decide +kernel)
theorem kl_L_104 : gLkH RL 104 yL_play cL_play 5 [(0, 10, 13, 19), (0, 10, 17, 13)] 4 := ⟨km_L_104, kt_L_play, ki_L, kc_L_play, by decide +kernel⟩
theorem km_L_106 : Cond.methodLink RL 106 yX5_play ∈ wAll := kAll 675 (by decide +kernel) (by decide +kernel)
theorem kj_X5_play : Cond.instanceMethod yX5_play ∈ wAll := kAll 676 (by decide +kernel) (by decide +kernel)
theorem ks_X5_play : Cond.selects RX5 yX5_play yX5_play ∈ wAll := kAll 677 (by decide +kernel) (by decide +kernel)
theorem kl_L_106 : gLkV RL 106 RX5 yX5_play cX5_play 4 (some .int) 2 := ⟨km_L_106, kj_X5_play, ks_X5_play, ki_X5, kc_X5_play, by decide +kernel⟩
theorem km_L_107 : Cond.methodLink RL 107 yL_tune ∈ wAll := kAll 432 (by decide +kernel) (by decide +kernel)
theorem kt_L_tune : Cond.static yL_tune ∈ wAll := kAll 433 (by decide +kernel) (by decide +kernel)
theorem kc_L_tune : Cond.codeWith yL_tune cL_tune 5 (some .int) [(0, 10, 13, 19), (0, 10, 17, 27)] ∈ wAll := kAll 434 (by decide +kernel) (by decide +kernel)
theorem kl_L_107 : gLkH RL 107 yL_tune cL_tune 5 [(0, 10, 13, 19), (0, 10, 17, 27)] 4 := ⟨km_L_107, kt_L_tune, ki_L, kc_L_tune, by decide +kernel⟩
theorem km_L_109 : Cond.methodLink RL 109 yX5_tune ∈ wAll := kAll 706 (by decide +kernel) (by decide +kernel)
theorem kj_X5_tune : Cond.instanceMethod yX5_tune ∈ wAll := kAll 707 (by decide +kernel) (by decide +kernel)
theorem ks_X5_tune : Cond.selects RX5 yX5_tune yX5_tune ∈ wAll := kAll 708 (by decide +kernel) (by decide +kernel)
theorem kl_L_109 : gLkV RL 109 RX5 yX5_tune cX5_tune 3 (some .int) 2 := ⟨km_L_109, kj_X5_tune, ks_X5_tune, ki_X5, kc_X5_tune, by decide +kernel⟩
theorem km_L_110 : Cond.methodLink RL 110 yL_felt ∈ wAll := kAll 447 (by decide +kernel) (by decide +kernel)
theorem kt_L_felt : Cond.static yL_felt ∈ wAll := kAll 448 (by decide +kernel) (by decide +kernel)
theorem kc_L_felt : Cond.codeWith yL_felt cL_felt 4 (some .int) [(0, 9, 12, 19), (0, 9, 15, 13)] ∈ wAll := kAll 449 (by decide +kernel) (by decide +kernel)
theorem kl_L_110 : gLkH RL 110 yL_felt cL_felt 4 [(0, 9, 12, 19), (0, 9, 15, 13)] 3 := ⟨km_L_110, kt_L_felt, ki_L, kc_L_felt, by decide +kernel⟩
theorem km_L_113 : Cond.methodLink RL 113 yX5_felt ∈ wAll := kAll 714 (by decide +kernel) (by decide +kernel)
theorem kj_X5_felt : Cond.instanceMethod yX5_felt ∈ wAll := kAll 715 (by decide +kernel) (by decide +kernel)
theorem ks_X5_felt : Cond.selects RX5 yX5_felt yX5_felt ∈ wAll := kAll 716 (by decide +kernel) (by decide +kernel)
theorem kl_L_113 : gLkV RL 113 RX5 yX5_felt cX5_felt 3 (some .int) 1 := ⟨km_L_113, kj_X5_felt, ks_X5_felt, ki_X5, kc_X5_felt, by decide +kernel⟩
theorem km_L_118 : Cond.methodLink RL 118 yL_pipe ∈ wAll := kAll 455 (by decide +kernel) (by decide +kernel)
theorem kt_L_pipe : Cond.static yL_pipe ∈ wAll := kAll 456 (by decide +kernel) (by decide +kernel)
theorem kc_L_pipe : Cond.codeWith yL_pipe cL_pipe 5 (some .int) [(0, 10, 13, 19)] ∈ wAll := kAll 457 (by decide +kernel) (by decide +kernel)
theorem kl_L_118 : gLkH RL 118 yL_pipe cL_pipe 5 [(0, 10, 13, 19)] 4 := ⟨km_L_118, kt_L_pipe, ki_L, kc_L_pipe, by decide +kernel⟩
theorem km_L_120 : Cond.methodLink RL 120 yX5_pipe ∈ wAll := kAll 726 (by decide +kernel) (by decide +kernel)
theorem kj_X5_pipe : Cond.instanceMethod yX5_pipe ∈ wAll := kAll 727 (by decide +kernel) (by decide +kernel)
theorem ks_X5_pipe : Cond.selects RX5 yX5_pipe yX5_pipe ∈ wAll := kAll 728 (by decide +kernel) (by decide +kernel)
theorem kl_L_120 : gLkV RL 120 RX5 yX5_pipe cX5_pipe 3 (some .int) 2 := ⟨km_L_120, kj_X5_pipe, ks_X5_pipe, ki_X5, kc_X5_pipe, by decide +kernel⟩
theorem km_L_121 : Cond.methodLink RL 121 yL_sound ∈ wAll := kAll 463 (by decide +kernel) (by decide +kernel)
theorem kt_L_sound : Cond.static yL_sound ∈ wAll := kAll 464 (by decide +kernel) (by decide +kernel)
theorem kc_L_sound : Cond.codeWith yL_sound cL_sound 4 (some .int) [(0, 9, 12, 19)] ∈ wAll := kAll 465 (by decide +kernel) (by decide +kernel)
theorem kl_L_121 : gLkH RL 121 yL_sound cL_sound 4 [(0, 9, 12, 19)] 3 := ⟨km_L_121, kt_L_sound, ki_L, kc_L_sound, by decide +kernel⟩
theorem km_L_123 : Cond.methodLink RL 123 yX5_sound ∈ wAll := kAll 734 (by decide +kernel) (by decide +kernel)
theorem kj_X5_sound : Cond.instanceMethod yX5_sound ∈ wAll := kAll 735 (by decide +kernel) (by decide +kernel)
theorem ks_X5_sound : Cond.selects RX5 yX5_sound yX5_sound ∈ wAll := kAll 736 (by decide +kernel) (by decide +kernel)
theorem kl_L_123 : gLkV RL 123 RX5 yX5_sound cX5_sound 2 (some .int) 1 := ⟨km_L_123, kj_X5_sound, ks_X5_sound, ki_X5, kc_X5_sound, by decide +kernel⟩
theorem km_L_124 : Cond.methodLink RL 124 yL_told ∈ wAll := kAll 470 (by decide +kernel) (by decide +kernel)
theorem kt_L_told : Cond.static yL_told ∈ wAll := kAll 471 (by decide +kernel) (by decide +kernel)
theorem kc_L_told : Cond.codeWith yL_told cL_told 5 (some .int) [(0, 10, 13, 19)] ∈ wAll := kAll 472 (by decide +kernel) (by decide +kernel)
theorem kl_L_124 : gLkH RL 124 yL_told cL_told 5 [(0, 10, 13, 19)] 4 := ⟨km_L_124, kt_L_told, ki_L, kc_L_told, by decide +kernel⟩
theorem km_L_126 : Cond.methodLink RL 126 yX5_told ∈ wAll := kAll 738 (by decide +kernel) (by decide +kernel)
theorem kj_X5_told : Cond.instanceMethod yX5_told ∈ wAll := kAll 739 (by decide +kernel) (by decide +kernel)
theorem ks_X5_told : Cond.selects RX5 yX5_told yX5_told ∈ wAll := kAll 740 (by decide +kernel) (by decide +kernel)
theorem kl_L_126 : gLkV RL 126 RX5 yX5_told cX5_told 3 (some .int) 2 := ⟨km_L_126, kj_X5_told, ks_X5_told, ki_X5, kc_X5_told, by decide +kernel⟩
theorem km_L_127 : Cond.methodLink RL 127 yL_count ∈ wAll := kAll 477 (by decide +kernel) (by decide +kernel)
theorem kt_L_count : Cond.static yL_count ∈ wAll := kAll 478 (by decide +kernel) (by decide +kernel)
theorem kc_L_count : Cond.codeWith yL_count cL_count 4 (some .int) [(0, 9, 12, 19)] ∈ wAll := kAll 479 (by decide +kernel) (by decide +kernel)
theorem kl_L_127 : gLkH RL 127 yL_count cL_count 4 [(0, 9, 12, 19)] 3 := ⟨km_L_127, kt_L_count, ki_L, kc_L_count, by decide +kernel⟩
theorem km_L_129 : Cond.methodLink RL 129 yX5_count ∈ wAll := kAll 746 (by decide +kernel) (by decide +kernel)
theorem kj_X5_count : Cond.instanceMethod yX5_count ∈ wAll := kAll 747 (by decide +kernel) (by decide +kernel)
theorem ks_X5_count : Cond.selects RX5 yX5_count yX5_count ∈ wAll := kAll 748 (by decide +kernel) (by decide +kernel)
theorem kl_L_129 : gLkV RL 129 RX5 yX5_count cX5_count 2 (some .int) 1 := ⟨km_L_129, kj_X5_count, ks_X5_count, ki_X5, kc_X5_count, by decide +kernel⟩
theorem km_L_130 : Cond.methodLink RL 130 yL_rest ∈ wAll := kAll 485 (by decide +kernel) (by decide +kernel)
theorem kt_L_rest : Cond.static yL_rest ∈ wAll := kAll 486 (by decide +kernel) (by decide +kernel)
theorem kc_L_rest : Cond.codeWith yL_rest cL_rest 4 (some .int) [(0, 9, 12, 27)] ∈ wAll := kAll 487 (by decide +kernel) (by decide +kernel)
theorem kl_L_130 : gLkH RL 130 yL_rest cL_rest 4 [(0, 9, 12, 27)] 3 := ⟨km_L_130, kt_L_rest, ki_L, kc_L_rest, by decide +kernel⟩
theorem km_L_132 : Cond.methodLink RL 132 yX5_rest ∈ wAll := kAll 762 (by decide +kernel) (by decide +kernel)
theorem kj_X5_rest : Cond.instanceMethod yX5_rest ∈ wAll := kAll 763 (by decide +kernel) (by decide +kernel)
theorem ks_X5_rest : Cond.selects RX5 yX5_rest yX5_rest ∈ wAll := kAll 764 (by decide +kernel) (by decide +kernel)
theorem kl_L_132 : gLkV RL 132 RX5 yX5_rest cX5_rest 4 (some .int) 1 := ⟨km_L_132, kj_X5_rest, ks_X5_rest, ki_X5, kc_X5_rest, by decide +kernel⟩
theorem km_L_133 : Cond.methodLink RL 133 yL_pays ∈ wAll := kAll 509 (by decide +kernel) (by decide +kernel)
theorem kt_L_pays : Cond.static yL_pays ∈ wAll := kAll 510 (by decide +kernel) (by decide +kernel)
theorem kc_L_pays : Cond.codeWith yL_pays cL_pays 5 (some .int) [(0, 10, 13, 19)] ∈ wAll := kAll 511 (by decide +kernel) (by decide +kernel)
theorem kl_L_133 : gLkH RL 133 yL_pays cL_pays 5 [(0, 10, 13, 19)] 4 := ⟨km_L_133, kt_L_pays, ki_L, kc_L_pays, by decide +kernel⟩
theorem km_L_135 : Cond.methodLink RL 135 yX5_pays ∈ wAll := kAll 774 (by decide +kernel) (by decide +kernel)
theorem kj_X5_pays : Cond.instanceMethod yX5_pays ∈ wAll := kAll 775 (by decide +kernel) (by decide +kernel)
theorem ks_X5_pays : Cond.selects RX5 yX5_pays yX5_pays ∈ wAll := kAll 776 (by decide +kernel) (by decide +kernel)
theorem kl_L_135 : gLkV RL 135 RX5 yX5_pays cX5_pays 3 (some .int) 2 := ⟨km_L_135, kj_X5_pays, ks_X5_pays, ki_X5, kc_X5_pays, by decide +kernel⟩
theorem km_L_136 : Cond.methodLink RL 136 yL_best ∈ wAll := kAll 516 (by decide +kernel) (by decide +kernel)
theorem kt_L_best : Cond.static yL_best ∈ wAll := kAll 517 (by decide +kernel) (by decide +kernel)
theorem kc_L_best : Cond.codeWith yL_best cL_best 4 (some .int) [(0, 9, 12, 19)] ∈ wAll := kAll 518 (by decide +kernel) (by decide +kernel)
theorem kl_L_136 : gLkH RL 136 yL_best cL_best 4 [(0, 9, 12, 19)] 3 := ⟨km_L_136, kt_L_best, ki_L, kc_L_best, by decide +kernel⟩
theorem km_L_138 : Cond.methodLink RL 138 yX5_best ∈ wAll := kAll 778 (by decide +kernel) (by decide +kernel)
theorem kj_X5_best : Cond.instanceMethod yX5_best ∈ wAll := kAll 779 (by decide +kernel) (by decide +kernel)
theorem ks_X5_best : Cond.selects RX5 yX5_best yX5_best ∈ wAll := kAll 780 (by decide +kernel) (by decide +kernel)
theorem kl_L_138 : gLkV RL 138 RX5 yX5_best cX5_best 6 (some .int) 1 := ⟨km_L_138, kj_X5_best, ks_X5_best, ki_X5, kc_X5_best, by decide +kernel⟩
theorem km_L_139 : Cond.methodLink RL 139 yL_worst ∈ wAll := kAll 523 (by decide +kernel) (by decide +kernel)
theorem kt_L_worst : Cond.static yL_worst ∈ wAll := kAll 524 (by decide +kernel) (by decide +kernel)
theorem kc_L_worst : Cond.codeWith yL_worst cL_worst 4 (some .int) [(0, 9, 12, 19)] ∈ wAll := kAll 525 (by decide +kernel) (by decide +kernel)
theorem kl_L_139 : gLkH RL 139 yL_worst cL_worst 4 [(0, 9, 12, 19)] 3 := ⟨km_L_139, kt_L_worst, ki_L, kc_L_worst, by decide +kernel⟩
theorem km_L_141 : Cond.methodLink RL 141 yX5_worst ∈ wAll := kAll 782 (by decide +kernel) (by decide +kernel)
theorem kj_X5_worst : Cond.instanceMethod yX5_worst ∈ wAll := kAll 783 (by decide +kernel) (by decide +kernel)
theorem ks_X5_worst : Cond.selects RX5 yX5_worst yX5_worst ∈ wAll := kAll 784 (by decide +kernel) (by decide +kernel)
theorem kl_L_141 : gLkV RL 141 RX5 yX5_worst cX5_worst 6 (some .int) 1 := ⟨km_L_141, kj_X5_worst, ks_X5_worst, ki_X5, kc_X5_worst, by decide +kernel⟩
theorem km_L_142 : Cond.methodLink RL 142 yL_foresee ∈ wAll := kAll 531 (by decide +kernel) (by decide +kernel)
theorem kt_L_foresee : Cond.static yL_foresee ∈ wAll := kAll 532 (by decide +kernel) (by decide +kernel)
theorem kc_L_foresee : Cond.codeWith yL_foresee cL_foresee 5 (some .int) [(0, 10, 13, 27), (0, 10, 17, 19)] ∈ wAll := kAll 533 (by decide +kernel) (by decide +kernel)
theorem kl_L_142 : gLkH RL 142 yL_foresee cL_foresee 5 [(0, 10, 13, 27), (0, 10, 17, 19)] 4 := ⟨km_L_142, kt_L_foresee, ki_L, kc_L_foresee, by decide +kernel⟩
theorem km_L_144 : Cond.methodLink RL 144 yX5_foresee ∈ wAll := kAll 786 (by decide +kernel) (by decide +kernel)
theorem kj_X5_foresee : Cond.instanceMethod yX5_foresee ∈ wAll := kAll 787 (by decide +kernel) (by decide +kernel)
theorem ks_X5_foresee : Cond.selects RX5 yX5_foresee yX5_foresee ∈ wAll := kAll 788 (by decide +kernel) (by decide +kernel)
theorem kl_L_144 : gLkV RL 144 RX5 yX5_foresee cX5_foresee 4 (some .int) 2 := ⟨km_L_144, kj_X5_foresee, ks_X5_foresee, ki_X5, kc_X5_foresee, by decide +kernel⟩
theorem km_L_145 : Cond.methodLink RL 145 yL_lasts ∈ wAll := kAll 543 (by decide +kernel) (by decide +kernel)
theorem kt_L_lasts : Cond.static yL_lasts ∈ wAll := kAll 544 (by decide +kernel) (by decide +kernel)
theorem kc_L_lasts : Cond.codeWith yL_lasts cL_lasts 4 (some .int) [(0, 9, 12, 19)] ∈ wAll := kAll 545 (by decide +kernel) (by decide +kernel)
theorem kl_L_145 : gLkH RL 145 yL_lasts cL_lasts 4 [(0, 9, 12, 19)] 3 := ⟨km_L_145, kt_L_lasts, ki_L, kc_L_lasts, by decide +kernel⟩
theorem km_L_147 : Cond.methodLink RL 147 yX5_lasts ∈ wAll := kAll 797 (by decide +kernel) (by decide +kernel)
theorem kj_X5_lasts : Cond.instanceMethod yX5_lasts ∈ wAll := kAll 798 (by decide +kernel) (by decide +kernel)
theorem ks_X5_lasts : Cond.selects RX5 yX5_lasts yX5_lasts ∈ wAll := kAll 799 (by decide +kernel) (by decide +kernel)
theorem kl_L_147 : gLkV RL 147 RX5 yX5_lasts cX5_lasts 3 (some .int) 1 := ⟨km_L_147, kj_X5_lasts, ks_X5_lasts, ki_X5, kc_X5_lasts, by decide +kernel⟩
theorem km_L_114 : Cond.methodLink RL 114 yX3_chase ∈ wAll := kAll 140 (by decide +kernel) (by decide +kernel)
theorem kj_X3_chase : Cond.instanceMethod yX3_chase ∈ wAll := kAll 141 (by decide +kernel) (by decide +kernel)
theorem ks_X3_chase : Cond.selects RX3 yX3_chase yX3_chase ∈ wAll := kAll 142 (by decide +kernel) (by decide +kernel)
theorem kl_L_114 : gLkV RL 114 RX3 yX3_chase cX3_chase 2 (some .int) 0 := ⟨km_L_114, kj_X3_chase, ks_X3_chase, ki_X3, kc_X3_chase, by decide +kernel⟩
theorem km_L_117 : Cond.methodLink RL 117 yX5_chase ∈ wAll := kAll 718 (by decide +kernel) (by decide +kernel)
theorem kj_X5_chase : Cond.instanceMethod yX5_chase ∈ wAll := kAll 719 (by decide +kernel) (by decide +kernel)
theorem ks_X5_chase : Cond.selects RX5 yX5_chase yX5_chase ∈ wAll := kAll 720 (by decide +kernel) (by decide +kernel)
theorem kl_L_117 : gLkV RL 117 RX5 yX5_chase cX5_chase 3 (some .int) 0 := ⟨km_L_117, kj_X5_chase, ks_X5_chase, ki_X5, kc_X5_chase, by decide +kernel⟩
theorem km_L_148 : Cond.methodLink RL 148 yX3_mean ∈ wAll := kAll 152 (by decide +kernel) (by decide +kernel)
theorem kj_X3_mean : Cond.instanceMethod yX3_mean ∈ wAll := kAll 153 (by decide +kernel) (by decide +kernel)
theorem ks_X3_mean : Cond.selects RX3 yX3_mean yX3_mean ∈ wAll := kAll 154 (by decide +kernel) (by decide +kernel)
theorem kl_L_148 : gLkV RL 148 RX3 yX3_mean cX3_mean 3 (some .double) 0 := ⟨km_L_148, kj_X3_mean, ks_X3_mean, ki_X3, kc_X3_mean, by decide +kernel⟩
theorem km_L_152 : Cond.methodLink RL 152 yX5_mean ∈ wAll := kAll 801 (by decide +kernel) (by decide +kernel)
theorem kj_X5_mean : Cond.instanceMethod yX5_mean ∈ wAll := kAll 802 (by decide +kernel) (by decide +kernel)
theorem ks_X5_mean : Cond.selects RX5 yX5_mean yX5_mean ∈ wAll := kAll 803 (by decide +kernel) (by decide +kernel)
theorem kl_L_152 : gLkV RL 152 RX5 yX5_mean cX5_mean 3 (some .double) 0 := ⟨km_L_152, kj_X5_mean, ks_X5_mean, ki_X5, kc_X5_mean, by decide +kernel⟩
theorem km_L_153 : Cond.methodLink RL 153 yX3_digest ∈ wAll := kAll 174 (by decide +kernel) (by decide +kernel)
theorem kj_X3_digest : Cond.instanceMethod yX3_digest ∈ wAll := kAll 175 (by decide +kernel) (by decide +kernel)
theorem ks_X3_digest : Cond.selects RX3 yX3_digest yX3_digest ∈ wAll := kAll 176 (by decide +kernel) (by decide +kernel)
theorem kl_L_153 : gLkV RL 153 RX3 yX3_digest cX3_digest 5 (some .long) 0 := ⟨km_L_153, kj_X3_digest, ks_X3_digest, ki_X3, kc_X3_digest, by decide +kernel⟩
theorem km_L_157 : Cond.methodLink RL 157 yX5_digest ∈ wAll := kAll 805 (by decide +kernel) (by decide +kernel)
theorem kj_X5_digest : Cond.instanceMethod yX5_digest ∈ wAll := kAll 806 (by decide +kernel) (by decide +kernel)
theorem ks_X5_digest : Cond.selects RX5 yX5_digest yX5_digest ∈ wAll := kAll 807 (by decide +kernel) (by decide +kernel)
theorem kl_L_157 : gLkV RL 157 RX5 yX5_digest cX5_digest 5 (some .long) 0 := ⟨km_L_157, kj_X5_digest, ks_X5_digest, ki_X5, kc_X5_digest, by decide +kernel⟩
section LR
variable {p : Program} {l : Launch} {e : Env} {R : Room} {s : State} {m : MethodId} {args : Array Value} {below : List Frame} {meth : Method} {c : Code} {Q : State → Prop}
variable {cc : ByteArray} {nL : Nat} {Ts : List Cond} {own : String} {D : va_G} {cy : Nat → ClassId} {A : Nat → Prop}
variable {n : Nat} {ad : Nat → Nat} {cz : Nat → (Nat → Int32) → va_E} {ρ : gSt} {cells slots pc : Nat} {ls ls' : List (Nat × Value)} {st st0 rest : List Value}
variable {y : MethodName} {rm : Room} {bytes : ByteArray} {maxL nA index mc ms : Nat} {As : List Value} {n' : Nat} {ad' : Nat → Nat} {cz' : Nat → (Nat → Int32) → va_E}
theorem g_hcall (X : gX p m c cc nL s args Ts own D cy A) (hE : gEnv s A) (hC : gNc s) {hh : List (Nat × Nat × Nat × Nat)} {post : Int32 → gSt → Prop} (off : Nat) (σ : gSt) (hσ : ∀ j, j < n' → cz' j (ρ (off + j)) = cz' j (σ j)) (hM : gMH l y bytes maxL hh rm D cy n' ad' cz' As σ post mc ms) (hL : gLkH own index y bytes maxL hh nA) (hR : rm.cells = mc ∧ rm.slots = ms ∧ rm.frames + 1 ≤ R.frames ∧ 8 + (maxL + 11) + rm.locals ≤ R.locals) (hs : gSub n ad cz off n' ad' cz') (hn : As.length = nA) (hst : st0 = As.reverse ++ rest) (hcat : (rest.map fun v => v.category).sum ≤ 8) (hd : decode cc pc = .ok (.invokestatic index, 3)) (hroom : cells + mc ≤ R.cells ∧ slots + ms ≤ R.slots) (kk : ∀ (r : Int32) (ρ1 : gSt), post r ρ1 → GW p l e R s m args below meth c Q nL D A n ad cz (gBack ρ off n' ρ1) (cells + mc) (slots + ms) (pc + 3) ls (.int r :: rest)) : GW p l e R s m args below meth c Q nL D A n ad cz ρ cells slots pc ls st0 := by
  intro H locs la hP hD hS hl
  have hfree := gA_sub hs hD hS X.2.2.1
  obtain ⟨h1, h2, h3, h4, h5⟩ := hL
  have hG : GoodIn Ts (va_wsS own index y (Cond.codeWith y bytes maxL (some .int) hh :: wAll)) := fun w hw => by
    have hm : w ∈ wAll := by
      unfold va_wsS at hw
      rcases List.mem_append.mp hw with hw | hw
      · simp only [List.mem_cons, List.not_mem_nil, or_false] at hw
        rcases hw with rfl | rfl | rfl
        · exact h1
        · exact h2
        · exact h3
      · rcases List.mem_cons.mp hw with rfl | h
        · exact h4
        · exact h
    exact ⟨X.2.2.2.1 _ hm, good_of_word (wAll_good _ hm)⟩
  exact va_calli (vx_runSW X.1 (hM H.size) (vx_cwSW nA X.1.2.2.2.2 hG rfl hR.1 hR.2.1 h5 hR.2.2) ⟨gPw_blind, fun U hU hW => ⟨rfl, by rw [hU], by rw [hU]; exact gP_congr hσ (gP_sub hs hP), va_K.moved hW.alike X.2.1, gInj_sub hs (gD_inj hD), gNst_warm hW X.2.2.2.2, gEnv_at hE hW hU hS hfree, fun q hq => va_Nc.moved hW.alike (hC q hq)⟩⟩ rfl hn hl.1 hst (lv_room hcat) hd hroom) hS (fun q _ h => hfree q h) hfree (fun r ρ1 t H1 locs1 ht hvm hw hB hz1 hk1 hS1 => kk r ρ1 hw H1 locs1 la (gP_back hs (gD_inj hD) hP hk1 (ht ▸ hB)) (gD_of (gD_inj hD) (fun _ hk => gD_in hD hk)) hS1 hl)
theorem g_slen (X : gX p m c cc nL s args Ts own D cy A) {b L : Nat} {xs : Nat → Int32} (hX : va_X b L xs s s.heap) (hbl : b < s.heap.size) (hbA : ¬ A b) (hd : decode cc pc = .ok (.arraylength, 1)) (kk : GW p l e R s m args below meth c Q nL D A n ad cz ρ cells slots (pc + 1) ls (.int (nI L) :: st)) : GW p l e R s m args below meth c Q nL D A n ad cz ρ cells slots pc ls (.ref b :: st) := fun H locs la hP hD hS hl => va_slen X.1.1 X.1.2.1 hX hbl hbA hS hd (kk H locs la hP hD hS hl)
theorem g_sld (X : gX p m c cc nL s args Ts own D cy A) {b L : Nat} {xs : Nat → Int32} (hX : va_X b L xs s s.heap) (hbl : b < s.heap.size) (hbA : ¬ A b) (j : Nat) (hj : j < L) (hL : L < 2 ^ 31) (hd : decode cc pc = .ok (.iaload, 1)) (kk : GW p l e R s m args below meth c Q nL D A n ad cz ρ cells slots (pc + 1) ls (.int (xs j) :: st)) : GW p l e R s m args below meth c Q nL D A n ad cz ρ cells slots pc ls (.int (nI j) :: .ref b :: st) := fun H locs la hP hD hS hl => va_sld X.1.1 X.1.2.1 hX hbl hbA hS (pk_in j L hj rfl hL) hd (by rw [nI_clamp (by omega)]; exact kk H locs la hP hD hS hl)
end LR
def lwX (p : Program) (l : Launch) (m : MethodId) (c : Code) (s : State) (b L : Nat) (xs : Nat → Int32) (D : va_G) (cy : Nat → ClassId) (A : Nat → Prop) : Prop := gX p m c code 9 s #[.ref b] lw_tbl RL D cy A ∧ gEnv s A ∧ gNc s ∧ va_X b L xs s s.heap ∧ b < s.heap.size ∧ ¬ A b ∧ L ≤ 1536 ∧ l.stackTraces = false
theorem lg_self {x : Int64} : lg_cmp x x = 0 := by
  unfold lg_cmp
  simp
theorem xk_bar {ρ : gSt} : (barF ρ).1 < 3 := by
  unfold barF
  repeat' split
  all_goals exact Nat.lt_of_sub_pos (Nat.le_of_ble_eq_true rfl)
theorem k_barrel {p : Program} {l : Launch} {e : Env} {s : State} {m : MethodId} {below : List Frame} {meth : Method} {c : Code} {Q : State → Prop} {D : va_G} {cy : Nat → ClassId} {A : Nat → Prop} {b L : Nat} {xs : Nat → Int32} {ad : Nat → Nat} (Y : lwX p l m c s b L xs D cy A) (k9 n9 t : Nat) (ρ : gSt) (th a : Int32) (hK : gKp ρ t) (ht : 3 * t + 3 ≤ L) (hroom : k9 + 52 ≤ 788088 ∧ n9 + 299 ≤ 6731839) (kk : ∀ (ρ' : gSt) (th' a' : Int32), gKp ρ' (t + 1) → GW p l e room_1 s m #[.ref b] below meth c Q 9 D A 67 ad (cL ad cy) (rW ρ' (rM ρ' th' a')) (k9 + 52) (n9 + 299) 1392 [(4, .int (nI (3 * t))), (0, .ref b), (1, .ref (ad 0)), (2, .ref (ad 49)), (3, .ref (ad 48))] []) : GW p l e room_1 s m #[.ref b] below meth c Q 9 D A 67 ad (cL ad cy) (rW ρ (rM ρ th a)) (k9) (n9) 140 [(4, .int (nI (3 * t))), (0, .ref b), (1, .ref (ad 0)), (2, .ref (ad 49)), (3, .ref (ad 48))] [] := by
  obtain ⟨X, hE, hC, hXs, hbl, hbA, hL, hl0⟩ := Y
  have hL31 : L < 2 ^ 31 := by omega
  obtain ⟨T, S, d, hI⟩ := id hK
  refine g_aload_n X dL_law_140 2 rfl rfl ?_
  refine g_aload_n X dL_law_141 4 rfl rfl ?_
  refine g_hcall X hE hC 0 ρ (fun j hj => by rw [rW_C hj]) (c_L_barrel l hl0 D cy ad ρ t T S d hI) kl_L_79 ⟨rfl, rfl, Nat.le_of_ble_eq_true rfl, Nat.le_of_ble_eq_true rfl⟩ gSubL rfl rfl (Nat.le_of_ble_eq_true rfl) dL_law_142 ⟨by show k9 + 3 ≤ 788088; omega, by show n9 + 18 ≤ 6731839; omega⟩ (fun r ρ1 hp => ?_)
  obtain ⟨hr1, hr2, hr3⟩ := hp
  have hF3 : (barF ρ).1 < 3 := xk_bar
  have hKn : gKp (barF ρ).2.2 (t + 1) := kp_bar hK (by omega)
  obtain ⟨F, eF⟩ : ∃ F, F = barF ρ := ⟨_, rfl⟩
  rw [← eF] at hr1 hr2 hr3 hF3 hKn
  obtain ⟨σ, eσ⟩ : ∃ σ : gSt, σ = fun k => if k = 48 then ρ1 48 else F.2.2 k := ⟨_, rfl⟩
  have h48 : ∀ k, k < 48 → F.2.2 k = σ k := fun k hk => by rw [eσ]; exact (if_neg (by omega)).symm
  have h49 : ∀ k, k < 49 → ρ1 k = σ k := fun k hk => by
    by_cases h : k = 48
    · subst h
      rw [eσ]
      rfl
    · rw [← h48 k (by omega)]
      exact hr2 k (by omega)
  have hKs : gKp σ (t + 1) := kp_48 h48 hKn
  have hs0 : F.1 = 0 → σ 48 0 = F.2.1 := fun h => by rw [← h49 48 (by omega)]; exact hr3 h
  refine g_congr (ρ1 := rW σ (rM ρ th a)) (fun k hk => by rw [rW_b1 h49]) ?_
  rw [hr1]
  refine g_istore X [(5, .int (nI F.1)), (4, .int (nI (3 * t))), (0, .ref b), (1, .ref (ad 0)), (2, .ref (ad 49)), (3, .ref (ad 48))] dL_law_145 (by omega) rfl ?_
  refine g_aload_n X dL_law_147 4 rfl rfl ?_
  refine g_mcallVi_at X 49 49 (by rw [rW_M]; exact c_X5_barrel l D cy (fun j => ad (49 + j)) ρ th a t T S d hI) kl_L_84 ⟨rfl, rfl, Nat.le_of_ble_eq_true rfl, Nat.le_of_ble_eq_true rfl⟩ gSubLM (by omega) lL_M kv_X5 rfl rfl (Nat.le_of_ble_eq_true rfl) dL_law_148 ⟨by show k9 + 3 + 0 ≤ 788088; omega, by show n9 + 18 + 0 ≤ 6731839; omega⟩ (fun r2 μ1 hp2 => ?_)
  obtain ⟨a9, rfl, hp3⟩ := hp2
  rw [← eF] at hp3
  refine g_congr (ρ1 := rW σ (rM σ (nI F.1) a9)) (fun k hk => by rw [rW_b2 hk, ← eF, rM_48 h48]) ?_
  refine g_istore X [(6, .int r2), (5, .int (nI F.1)), (4, .int (nI (3 * t))), (0, .ref b), (1, .ref (ad 0)), (2, .ref (ad 49)), (3, .ref (ad 48))] dL_law_151 (by omega) rfl ?_
  refine g_aload_n X dL_law_153 5 rfl rfl ?_
  refine g_mcallVi_at X 49 49 (by rw [rW_M]; exact c_X5_thrown l D cy (fun j => ad (49 + j)) σ (nI F.1) a9) kl_L_85 ⟨rfl, rfl, Nat.le_of_ble_eq_true rfl, Nat.le_of_ble_eq_true rfl⟩ gSubLM (by omega) lL_M kv_X5 rfl rfl (Nat.le_of_ble_eq_true rfl) dL_law_154 ⟨by show k9 + 3 + 0 + 0 ≤ 788088; omega, by show n9 + 18 + 0 + 0 ≤ 6731839; omega⟩ (fun r3 μ1 hp4 => ?_)
  obtain ⟨rfl, rfl⟩ := hp4
  refine g_congr (ρ1 := rW σ (rM σ (nI F.1) a9)) (fun k hk => by rw [rW_b2 hk]) ?_
  have fin : GW p l e room_1 s m #[.ref b] below meth c Q 9 D A 67 ad (cL ad cy) (rW σ (rM σ (nI F.1) a9)) (k9 + 3 + 0 + 0) (n9 + 18 + 0 + 0) 181 [(6, .int r2), (5, .int (nI F.1)), (4, .int (nI (3 * t))), (0, .ref b), (1, .ref (ad 0)), (2, .ref (ad 49)), (3, .ref (ad 48))] [] := by
    refine g_goto X 1392 dL_law_181 (by decide) ?_
    refine g_ls (ls' := [(4, .int (nI (3 * t))), (0, .ref b), (1, .ref (ad 0)), (2, .ref (ad 49)), (3, .ref (ad 48))]) [2, 3, 4, 5, 6] rfl ?_
    exact g_widen (by omega) (by omega) (kk σ (nI F.1) a9 hKs)
  refine g_iload X dL_law_157 1 rfl ?_
  refine g_icmp_eq X 164 dL_law_159 (by decide) (fun _ => ?_) (fun h => absurd rfl h)
  refine g_iload X dL_law_164 1 rfl ?_
  refine g_if_ne X 181 dL_law_166 (by decide) (fun _ => fin) (fun h0 => ?_)
  have hz : F.1 = 0 := (nI_z (by omega)).mp h0
  refine g_aload_n X dL_law_169 6 rfl rfl ?_
  refine g_iconst X (v := nI 0) dL_law_170 (by decide) ?_
  refine g_lald X 48 (by omega) lL_out (pk_in 0 1 (by omega) rfl) dL_law_171 ?_
  refine g_iload X dL_law_172 0 rfl ?_
  refine g_i2l X dL_law_174 ?_
  refine g_lcmp X dL_law_175 ?_
  rw [show rW σ (rM σ (nI F.1) a9) 48 (nI 0).toNatClampNeg = r2 from (hs0 hz).trans (hp3 hz).symm]
  exact g_if_eq X 181 dL_law_176 (by decide) (fun _ => fin) (fun h => absurd lg_self h)
theorem xk_pin {ρ : gSt} {x y : Int32} : (pinF ρ x y).1 < 3 := by
  unfold pinF
  repeat' split
  all_goals exact Nat.lt_of_sub_pos (Nat.le_of_ble_eq_true rfl)
theorem k_pin {p : Program} {l : Launch} {e : Env} {s : State} {m : MethodId} {below : List Frame} {meth : Method} {c : Code} {Q : State → Prop} {D : va_G} {cy : Nat → ClassId} {A : Nat → Prop} {b L : Nat} {xs : Nat → Int32} {ad : Nat → Nat} (Y : lwX p l m c s b L xs D cy A) (k9 n9 t : Nat) (ρ : gSt) (th a : Int32) (hK : gKp ρ t) (ht : 3 * t + 3 ≤ L) (hroom : k9 + 52 ≤ 788088 ∧ n9 + 299 ≤ 6731839) (kk : ∀ (ρ' : gSt) (th' a' : Int32), gKp ρ' (t + 1) → GW p l e room_1 s m #[.ref b] below meth c Q 9 D A 67 ad (cL ad cy) (rW ρ' (rM ρ' th' a')) (k9 + 52) (n9 + 299) 1392 [(4, .int (nI (3 * t))), (0, .ref b), (1, .ref (ad 0)), (2, .ref (ad 49)), (3, .ref (ad 48))] []) : GW p l e room_1 s m #[.ref b] below meth c Q 9 D A 67 ad (cL ad cy) (rW ρ (rM ρ th a)) (k9) (n9) 184 [(4, .int (nI (3 * t))), (0, .ref b), (1, .ref (ad 0)), (2, .ref (ad 49)), (3, .ref (ad 48))] [] := by
  obtain ⟨X, hE, hC, hXs, hbl, hbA, hL, hl0⟩ := Y
  have hL31 : L < 2 ^ 31 := by omega
  obtain ⟨T, S, d, hI⟩ := id hK
  refine g_aload_n X dL_law_184 2 rfl rfl ?_
  refine g_aload_n X dL_law_185 1 rfl rfl ?_
  refine g_iload X dL_law_186 0 rfl ?_
  refine g_iconst X (v := nI 1) dL_law_188 (by decide) ?_
  refine g_iadd X dL_law_189 ?_
  rw [nI_add]
  refine g_sld X hXs hbl hbA (3 * t + 1) (by omega) hL31 dL_law_190 ?_
  refine g_aload_n X dL_law_191 1 rfl rfl ?_
  refine g_iload X dL_law_192 0 rfl ?_
  refine g_iconst X (v := nI 2) dL_law_194 (by decide) ?_
  refine g_iadd X dL_law_195 ?_
  rw [nI_add]
  refine g_sld X hXs hbl hbA (3 * t + 2) (by omega) hL31 dL_law_196 ?_
  refine g_aload_n X dL_law_197 4 rfl rfl ?_
  refine g_hcall X hE hC 0 ρ (fun j hj => by rw [rW_C hj]) (c_L_pin l hl0 D cy ad ρ t T S d hI (xs (3 * t + 1)) (xs (3 * t + 2))) kl_L_88 ⟨rfl, rfl, Nat.le_of_ble_eq_true rfl, Nat.le_of_ble_eq_true rfl⟩ gSubL rfl rfl (Nat.le_of_ble_eq_true rfl) dL_law_198 ⟨by show k9 + 3 ≤ 788088; omega, by show n9 + 18 ≤ 6731839; omega⟩ (fun r ρ1 hp => ?_)
  obtain ⟨hr1, hr2, hr3⟩ := hp
  have hF3 : (pinF ρ (xs (3 * t + 1)) (xs (3 * t + 2))).1 < 3 := xk_pin
  have hKn : gKp (pinF ρ (xs (3 * t + 1)) (xs (3 * t + 2))).2.2 (t + 1) := kp_pin hK (by omega)
  obtain ⟨F, eF⟩ : ∃ F, F = pinF ρ (xs (3 * t + 1)) (xs (3 * t + 2)) := ⟨_, rfl⟩
  rw [← eF] at hr1 hr2 hr3 hF3 hKn
  obtain ⟨σ, eσ⟩ : ∃ σ : gSt, σ = fun k => if k = 48 then ρ1 48 else F.2.2 k := ⟨_, rfl⟩
  have h48 : ∀ k, k < 48 → F.2.2 k = σ k := fun k hk => by rw [eσ]; exact (if_neg (by omega)).symm
  have h49 : ∀ k, k < 49 → ρ1 k = σ k := fun k hk => by
    by_cases h : k = 48
    · subst h
      rw [eσ]
      rfl
    · rw [← h48 k (by omega)]
      exact hr2 k (by omega)
  have hKs : gKp σ (t + 1) := kp_48 h48 hKn
  have hs0 : F.1 = 0 → σ 48 0 = F.2.1 := fun h => by rw [← h49 48 (by omega)]; exact hr3 h
  refine g_congr (ρ1 := rW σ (rM ρ th a)) (fun k hk => by rw [rW_b1 h49]) ?_
  rw [hr1]
  refine g_istore X [(5, .int (nI F.1)), (4, .int (nI (3 * t))), (0, .ref b), (1, .ref (ad 0)), (2, .ref (ad 49)), (3, .ref (ad 48))] dL_law_201 (by omega) rfl ?_
  refine g_aload_n X dL_law_203 4 rfl rfl ?_
  refine g_aload_n X dL_law_204 2 rfl rfl ?_
  refine g_iload X dL_law_205 1 rfl ?_
  refine g_iconst X (v := nI 1) dL_law_207 (by decide) ?_
  refine g_iadd X dL_law_208 ?_
  rw [nI_add]
  refine g_sld X hXs hbl hbA (3 * t + 1) (by omega) hL31 dL_law_209 ?_
  refine g_aload_n X dL_law_210 2 rfl rfl ?_
  refine g_iload X dL_law_211 1 rfl ?_
  refine g_iconst X (v := nI 2) dL_law_213 (by decide) ?_
  refine g_iadd X dL_law_214 ?_
  rw [nI_add]
  refine g_sld X hXs hbl hbA (3 * t + 2) (by omega) hL31 dL_law_215 ?_
  refine g_mcallVi_at X 49 49 (by rw [rW_M]; exact c_X5_pin l D cy (fun j => ad (49 + j)) ρ th a t T S d hI (xs (3 * t + 1)) (xs (3 * t + 2))) kl_L_91 ⟨rfl, rfl, Nat.le_of_ble_eq_true rfl, Nat.le_of_ble_eq_true rfl⟩ gSubLM (by omega) lL_M kv_X5 rfl rfl (Nat.le_of_ble_eq_true rfl) dL_law_216 ⟨by show k9 + 3 + 0 ≤ 788088; omega, by show n9 + 18 + 0 ≤ 6731839; omega⟩ (fun r2 μ1 hp2 => ?_)
  obtain ⟨a9, rfl, hp3⟩ := hp2
  rw [← eF] at hp3
  refine g_congr (ρ1 := rW σ (rM σ (nI F.1) a9)) (fun k hk => by rw [rW_b2 hk, ← eF, rM_48 h48]) ?_
  refine g_istore X [(6, .int r2), (5, .int (nI F.1)), (4, .int (nI (3 * t))), (0, .ref b), (1, .ref (ad 0)), (2, .ref (ad 49)), (3, .ref (ad 48))] dL_law_219 (by omega) rfl ?_
  refine g_aload_n X dL_law_221 5 rfl rfl ?_
  refine g_mcallVi_at X 49 49 (by rw [rW_M]; exact c_X5_thrown l D cy (fun j => ad (49 + j)) σ (nI F.1) a9) kl_L_85 ⟨rfl, rfl, Nat.le_of_ble_eq_true rfl, Nat.le_of_ble_eq_true rfl⟩ gSubLM (by omega) lL_M kv_X5 rfl rfl (Nat.le_of_ble_eq_true rfl) dL_law_222 ⟨by show k9 + 3 + 0 + 0 ≤ 788088; omega, by show n9 + 18 + 0 + 0 ≤ 6731839; omega⟩ (fun r3 μ1 hp4 => ?_)
  obtain ⟨rfl, rfl⟩ := hp4
  refine g_congr (ρ1 := rW σ (rM σ (nI F.1) a9)) (fun k hk => by rw [rW_b2 hk]) ?_
  have fin : GW p l e room_1 s m #[.ref b] below meth c Q 9 D A 67 ad (cL ad cy) (rW σ (rM σ (nI F.1) a9)) (k9 + 3 + 0 + 0) (n9 + 18 + 0 + 0) 249 [(6, .int r2), (5, .int (nI F.1)), (4, .int (nI (3 * t))), (0, .ref b), (1, .ref (ad 0)), (2, .ref (ad 49)), (3, .ref (ad 48))] [] := by
    refine g_goto X 1392 dL_law_249 (by decide) ?_
    refine g_ls (ls' := [(4, .int (nI (3 * t))), (0, .ref b), (1, .ref (ad 0)), (2, .ref (ad 49)), (3, .ref (ad 48))]) [2, 3, 4, 5, 6] rfl ?_
    exact g_widen (by omega) (by omega) (kk σ (nI F.1) a9 hKs)
  refine g_iload X dL_law_225 1 rfl ?_
  refine g_icmp_eq X 232 dL_law_227 (by decide) (fun _ => ?_) (fun h => absurd rfl h)
  refine g_iload X dL_law_232 1 rfl ?_
  refine g_if_ne X 249 dL_law_234 (by decide) (fun _ => fin) (fun h0 => ?_)
  have hz : F.1 = 0 := (nI_z (by omega)).mp h0
  refine g_aload_n X dL_law_237 6 rfl rfl ?_
  refine g_iconst X (v := nI 0) dL_law_238 (by decide) ?_
  refine g_lald X 48 (by omega) lL_out (pk_in 0 1 (by omega) rfl) dL_law_239 ?_
  refine g_iload X dL_law_240 0 rfl ?_
  refine g_i2l X dL_law_242 ?_
  refine g_lcmp X dL_law_243 ?_
  rw [show rW σ (rM σ (nI F.1) a9) 48 (nI 0).toNatClampNeg = r2 from (hs0 hz).trans (hp3 hz).symm]
  exact g_if_eq X 249 dL_law_244 (by decide) (fun _ => fin) (fun h => absurd lg_self h)
theorem xk_not {ρ : gSt} {x y : Int32} : (notF ρ x y).1 < 3 := by
  unfold notF
  repeat' split
  all_goals exact Nat.lt_of_sub_pos (Nat.le_of_ble_eq_true rfl)
theorem k_note {p : Program} {l : Launch} {e : Env} {s : State} {m : MethodId} {below : List Frame} {meth : Method} {c : Code} {Q : State → Prop} {D : va_G} {cy : Nat → ClassId} {A : Nat → Prop} {b L : Nat} {xs : Nat → Int32} {ad : Nat → Nat} (Y : lwX p l m c s b L xs D cy A) (k9 n9 t : Nat) (ρ : gSt) (th a : Int32) (hK : gKp ρ t) (ht : 3 * t + 3 ≤ L) (hroom : k9 + 52 ≤ 788088 ∧ n9 + 299 ≤ 6731839) (kk : ∀ (ρ' : gSt) (th' a' : Int32), gKp ρ' (t + 1) → GW p l e room_1 s m #[.ref b] below meth c Q 9 D A 67 ad (cL ad cy) (rW ρ' (rM ρ' th' a')) (k9 + 52) (n9 + 299) 1392 [(4, .int (nI (3 * t))), (0, .ref b), (1, .ref (ad 0)), (2, .ref (ad 49)), (3, .ref (ad 48))] []) : GW p l e room_1 s m #[.ref b] below meth c Q 9 D A 67 ad (cL ad cy) (rW ρ (rM ρ th a)) (k9) (n9) 252 [(4, .int (nI (3 * t))), (0, .ref b), (1, .ref (ad 0)), (2, .ref (ad 49)), (3, .ref (ad 48))] [] := by
  obtain ⟨X, hE, hC, hXs, hbl, hbA, hL, hl0⟩ := Y
  have hL31 : L < 2 ^ 31 := by omega
  obtain ⟨T, S, d, hI⟩ := id hK
  refine g_aload_n X dL_law_252 2 rfl rfl ?_
  refine g_aload_n X dL_law_253 1 rfl rfl ?_
  refine g_iload X dL_law_254 0 rfl ?_
  refine g_iconst X (v := nI 1) dL_law_256 (by decide) ?_
  refine g_iadd X dL_law_257 ?_
  rw [nI_add]
  refine g_sld X hXs hbl hbA (3 * t + 1) (by omega) hL31 dL_law_258 ?_
  refine g_aload_n X dL_law_259 1 rfl rfl ?_
  refine g_iload X dL_law_260 0 rfl ?_
  refine g_iconst X (v := nI 2) dL_law_262 (by decide) ?_
  refine g_iadd X dL_law_263 ?_
  rw [nI_add]
  refine g_sld X hXs hbl hbA (3 * t + 2) (by omega) hL31 dL_law_264 ?_
  refine g_aload_n X dL_law_265 4 rfl rfl ?_
  refine g_hcall X hE hC 0 ρ (fun j hj => by rw [rW_C hj]) (c_L_note l hl0 D cy ad ρ t T S d hI (xs (3 * t + 1)) (xs (3 * t + 2))) kl_L_92 ⟨rfl, rfl, Nat.le_of_ble_eq_true rfl, Nat.le_of_ble_eq_true rfl⟩ gSubL rfl rfl (Nat.le_of_ble_eq_true rfl) dL_law_266 ⟨by show k9 + 3 ≤ 788088; omega, by show n9 + 18 ≤ 6731839; omega⟩ (fun r ρ1 hp => ?_)
  obtain ⟨hr1, hr2, hr3⟩ := hp
  have hF3 : (notF ρ (xs (3 * t + 1)) (xs (3 * t + 2))).1 < 3 := xk_not
  have hKn : gKp (notF ρ (xs (3 * t + 1)) (xs (3 * t + 2))).2.2 (t + 1) := kp_not hK (by omega)
  obtain ⟨F, eF⟩ : ∃ F, F = notF ρ (xs (3 * t + 1)) (xs (3 * t + 2)) := ⟨_, rfl⟩
  rw [← eF] at hr1 hr2 hr3 hF3 hKn
  obtain ⟨σ, eσ⟩ : ∃ σ : gSt, σ = fun k => if k = 48 then ρ1 48 else F.2.2 k := ⟨_, rfl⟩
  have h48 : ∀ k, k < 48 → F.2.2 k = σ k := fun k hk => by rw [eσ]; exact (if_neg (by omega)).symm
  have h49 : ∀ k, k < 49 → ρ1 k = σ k := fun k hk => by
    by_cases h : k = 48
    · subst h
      rw [eσ]
      rfl
    · rw [← h48 k (by omega)]
      exact hr2 k (by omega)
  have hKs : gKp σ (t + 1) := kp_48 h48 hKn
  have hs0 : F.1 = 0 → σ 48 0 = F.2.1 := fun h => by rw [← h49 48 (by omega)]; exact hr3 h
  refine g_congr (ρ1 := rW σ (rM ρ th a)) (fun k hk => by rw [rW_b1 h49]) ?_
  rw [hr1]
  refine g_istore X [(5, .int (nI F.1)), (4, .int (nI (3 * t))), (0, .ref b), (1, .ref (ad 0)), (2, .ref (ad 49)), (3, .ref (ad 48))] dL_law_269 (by omega) rfl ?_
  refine g_aload_n X dL_law_271 4 rfl rfl ?_
  refine g_aload_n X dL_law_272 2 rfl rfl ?_
  refine g_iload X dL_law_273 1 rfl ?_
  refine g_iconst X (v := nI 1) dL_law_275 (by decide) ?_
  refine g_iadd X dL_law_276 ?_
  rw [nI_add]
  refine g_sld X hXs hbl hbA (3 * t + 1) (by omega) hL31 dL_law_277 ?_
  refine g_aload_n X dL_law_278 2 rfl rfl ?_
  refine g_iload X dL_law_279 1 rfl ?_
  refine g_iconst X (v := nI 2) dL_law_281 (by decide) ?_
  refine g_iadd X dL_law_282 ?_
  rw [nI_add]
  refine g_sld X hXs hbl hbA (3 * t + 2) (by omega) hL31 dL_law_283 ?_
  refine g_mcallVi_at X 49 49 (by rw [rW_M]; exact c_X5_note l D cy (fun j => ad (49 + j)) ρ th a t T S d hI (xs (3 * t + 1)) (xs (3 * t + 2))) kl_L_94 ⟨rfl, rfl, Nat.le_of_ble_eq_true rfl, Nat.le_of_ble_eq_true rfl⟩ gSubLM (by omega) lL_M kv_X5 rfl rfl (Nat.le_of_ble_eq_true rfl) dL_law_284 ⟨by show k9 + 3 + 0 ≤ 788088; omega, by show n9 + 18 + 0 ≤ 6731839; omega⟩ (fun r2 μ1 hp2 => ?_)
  obtain ⟨a9, rfl, hp3⟩ := hp2
  rw [← eF] at hp3
  refine g_congr (ρ1 := rW σ (rM σ (nI F.1) a9)) (fun k hk => by rw [rW_b2 hk, ← eF, rM_48 h48]) ?_
  refine g_istore X [(6, .int r2), (5, .int (nI F.1)), (4, .int (nI (3 * t))), (0, .ref b), (1, .ref (ad 0)), (2, .ref (ad 49)), (3, .ref (ad 48))] dL_law_287 (by omega) rfl ?_
  refine g_aload_n X dL_law_289 5 rfl rfl ?_
  refine g_mcallVi_at X 49 49 (by rw [rW_M]; exact c_X5_thrown l D cy (fun j => ad (49 + j)) σ (nI F.1) a9) kl_L_85 ⟨rfl, rfl, Nat.le_of_ble_eq_true rfl, Nat.le_of_ble_eq_true rfl⟩ gSubLM (by omega) lL_M kv_X5 rfl rfl (Nat.le_of_ble_eq_true rfl) dL_law_290 ⟨by show k9 + 3 + 0 + 0 ≤ 788088; omega, by show n9 + 18 + 0 + 0 ≤ 6731839; omega⟩ (fun r3 μ1 hp4 => ?_)
  obtain ⟨rfl, rfl⟩ := hp4
  refine g_congr (ρ1 := rW σ (rM σ (nI F.1) a9)) (fun k hk => by rw [rW_b2 hk]) ?_
  have fin : GW p l e room_1 s m #[.ref b] below meth c Q 9 D A 67 ad (cL ad cy) (rW σ (rM σ (nI F.1) a9)) (k9 + 3 + 0 + 0) (n9 + 18 + 0 + 0) 317 [(6, .int r2), (5, .int (nI F.1)), (4, .int (nI (3 * t))), (0, .ref b), (1, .ref (ad 0)), (2, .ref (ad 49)), (3, .ref (ad 48))] [] := by
    refine g_goto X 1392 dL_law_317 (by decide) ?_
    refine g_ls (ls' := [(4, .int (nI (3 * t))), (0, .ref b), (1, .ref (ad 0)), (2, .ref (ad 49)), (3, .ref (ad 48))]) [2, 3, 4, 5, 6] rfl ?_
    exact g_widen (by omega) (by omega) (kk σ (nI F.1) a9 hKs)
  refine g_iload X dL_law_293 1 rfl ?_
  refine g_icmp_eq X 300 dL_law_295 (by decide) (fun _ => ?_) (fun h => absurd rfl h)
  refine g_iload X dL_law_300 1 rfl ?_
  refine g_if_ne X 317 dL_law_302 (by decide) (fun _ => fin) (fun h0 => ?_)
  have hz : F.1 = 0 := (nI_z (by omega)).mp h0
  refine g_aload_n X dL_law_305 6 rfl rfl ?_
  refine g_iconst X (v := nI 0) dL_law_306 (by decide) ?_
  refine g_lald X 48 (by omega) lL_out (pk_in 0 1 (by omega) rfl) dL_law_307 ?_
  refine g_iload X dL_law_308 0 rfl ?_
  refine g_i2l X dL_law_310 ?_
  refine g_lcmp X dL_law_311 ?_
  rw [show rW σ (rM σ (nI F.1) a9) 48 (nI 0).toNatClampNeg = r2 from (hs0 hz).trans (hp3 hz).symm]
  exact g_if_eq X 317 dL_law_312 (by decide) (fun _ => fin) (fun h => absurd lg_self h)
theorem xk_str {ρ : gSt} {x y : Int32} : (strF ρ x y).1 < 3 := by
  unfold strF
  repeat' split
  all_goals exact Nat.lt_of_sub_pos (Nat.le_of_ble_eq_true rfl)
theorem k_street {p : Program} {l : Launch} {e : Env} {s : State} {m : MethodId} {below : List Frame} {meth : Method} {c : Code} {Q : State → Prop} {D : va_G} {cy : Nat → ClassId} {A : Nat → Prop} {b L : Nat} {xs : Nat → Int32} {ad : Nat → Nat} (Y : lwX p l m c s b L xs D cy A) (k9 n9 t : Nat) (ρ : gSt) (th a : Int32) (hK : gKp ρ t) (ht : 3 * t + 3 ≤ L) (hroom : k9 + 52 ≤ 788088 ∧ n9 + 299 ≤ 6731839) (kk : ∀ (ρ' : gSt) (th' a' : Int32), gKp ρ' (t + 1) → GW p l e room_1 s m #[.ref b] below meth c Q 9 D A 67 ad (cL ad cy) (rW ρ' (rM ρ' th' a')) (k9 + 52) (n9 + 299) 1392 [(4, .int (nI (3 * t))), (0, .ref b), (1, .ref (ad 0)), (2, .ref (ad 49)), (3, .ref (ad 48))] []) : GW p l e room_1 s m #[.ref b] below meth c Q 9 D A 67 ad (cL ad cy) (rW ρ (rM ρ th a)) (k9) (n9) 320 [(4, .int (nI (3 * t))), (0, .ref b), (1, .ref (ad 0)), (2, .ref (ad 49)), (3, .ref (ad 48))] [] := by
  obtain ⟨X, hE, hC, hXs, hbl, hbA, hL, hl0⟩ := Y
  have hL31 : L < 2 ^ 31 := by omega
  obtain ⟨T, S, d, hI⟩ := id hK
  refine g_aload_n X dL_law_320 2 rfl rfl ?_
  refine g_aload_n X dL_law_321 1 rfl rfl ?_
  refine g_iload X dL_law_322 0 rfl ?_
  refine g_iconst X (v := nI 1) dL_law_324 (by decide) ?_
  refine g_iadd X dL_law_325 ?_
  rw [nI_add]
  refine g_sld X hXs hbl hbA (3 * t + 1) (by omega) hL31 dL_law_326 ?_
  refine g_aload_n X dL_law_327 1 rfl rfl ?_
  refine g_iload X dL_law_328 0 rfl ?_
  refine g_iconst X (v := nI 2) dL_law_330 (by decide) ?_
  refine g_iadd X dL_law_331 ?_
  rw [nI_add]
  refine g_sld X hXs hbl hbA (3 * t + 2) (by omega) hL31 dL_law_332 ?_
  refine g_aload_n X dL_law_333 4 rfl rfl ?_
  refine g_hcall X hE hC 0 ρ (fun j hj => by rw [rW_C hj]) (c_L_street l hl0 D cy ad ρ t T S d hI (xs (3 * t + 1)) (xs (3 * t + 2))) kl_L_95 ⟨rfl, rfl, Nat.le_of_ble_eq_true rfl, Nat.le_of_ble_eq_true rfl⟩ gSubL rfl rfl (Nat.le_of_ble_eq_true rfl) dL_law_334 ⟨by show k9 + 3 ≤ 788088; omega, by show n9 + 18 ≤ 6731839; omega⟩ (fun r ρ1 hp => ?_)
  obtain ⟨hr1, hr2, hr3⟩ := hp
  have hF3 : (strF ρ (xs (3 * t + 1)) (xs (3 * t + 2))).1 < 3 := xk_str
  have hKn : gKp (strF ρ (xs (3 * t + 1)) (xs (3 * t + 2))).2.2 (t + 1) := kp_str hK (by omega)
  obtain ⟨F, eF⟩ : ∃ F, F = strF ρ (xs (3 * t + 1)) (xs (3 * t + 2)) := ⟨_, rfl⟩
  rw [← eF] at hr1 hr2 hr3 hF3 hKn
  obtain ⟨σ, eσ⟩ : ∃ σ : gSt, σ = fun k => if k = 48 then ρ1 48 else F.2.2 k := ⟨_, rfl⟩
  have h48 : ∀ k, k < 48 → F.2.2 k = σ k := fun k hk => by rw [eσ]; exact (if_neg (by omega)).symm
  have h49 : ∀ k, k < 49 → ρ1 k = σ k := fun k hk => by
    by_cases h : k = 48
    · subst h
      rw [eσ]
      rfl
    · rw [← h48 k (by omega)]
      exact hr2 k (by omega)
  have hKs : gKp σ (t + 1) := kp_48 h48 hKn
  have hs0 : F.1 = 0 → σ 48 0 = F.2.1 := fun h => by rw [← h49 48 (by omega)]; exact hr3 h
  refine g_congr (ρ1 := rW σ (rM ρ th a)) (fun k hk => by rw [rW_b1 h49]) ?_
  rw [hr1]
  refine g_istore X [(5, .int (nI F.1)), (4, .int (nI (3 * t))), (0, .ref b), (1, .ref (ad 0)), (2, .ref (ad 49)), (3, .ref (ad 48))] dL_law_337 (by omega) rfl ?_
  refine g_aload_n X dL_law_339 4 rfl rfl ?_
  refine g_aload_n X dL_law_340 2 rfl rfl ?_
  refine g_iload X dL_law_341 1 rfl ?_
  refine g_iconst X (v := nI 1) dL_law_343 (by decide) ?_
  refine g_iadd X dL_law_344 ?_
  rw [nI_add]
  refine g_sld X hXs hbl hbA (3 * t + 1) (by omega) hL31 dL_law_345 ?_
  refine g_aload_n X dL_law_346 2 rfl rfl ?_
  refine g_iload X dL_law_347 1 rfl ?_
  refine g_iconst X (v := nI 2) dL_law_349 (by decide) ?_
  refine g_iadd X dL_law_350 ?_
  rw [nI_add]
  refine g_sld X hXs hbl hbA (3 * t + 2) (by omega) hL31 dL_law_351 ?_
  refine g_mcallVi_at X 49 49 (by rw [rW_M]; exact c_X5_street l D cy (fun j => ad (49 + j)) ρ th a t T S d hI (xs (3 * t + 1)) (xs (3 * t + 2))) kl_L_97 ⟨rfl, rfl, Nat.le_of_ble_eq_true rfl, Nat.le_of_ble_eq_true rfl⟩ gSubLM (by omega) lL_M kv_X5 rfl rfl (Nat.le_of_ble_eq_true rfl) dL_law_352 ⟨by show k9 + 3 + 0 ≤ 788088; omega, by show n9 + 18 + 0 ≤ 6731839; omega⟩ (fun r2 μ1 hp2 => ?_)
  obtain ⟨a9, rfl, hp3⟩ := hp2
  rw [← eF] at hp3
  refine g_congr (ρ1 := rW σ (rM σ (nI F.1) a9)) (fun k hk => by rw [rW_b2 hk, ← eF, rM_48 h48]) ?_
  refine g_istore X [(6, .int r2), (5, .int (nI F.1)), (4, .int (nI (3 * t))), (0, .ref b), (1, .ref (ad 0)), (2, .ref (ad 49)), (3, .ref (ad 48))] dL_law_355 (by omega) rfl ?_
  refine g_aload_n X dL_law_357 5 rfl rfl ?_
  refine g_mcallVi_at X 49 49 (by rw [rW_M]; exact c_X5_thrown l D cy (fun j => ad (49 + j)) σ (nI F.1) a9) kl_L_85 ⟨rfl, rfl, Nat.le_of_ble_eq_true rfl, Nat.le_of_ble_eq_true rfl⟩ gSubLM (by omega) lL_M kv_X5 rfl rfl (Nat.le_of_ble_eq_true rfl) dL_law_358 ⟨by show k9 + 3 + 0 + 0 ≤ 788088; omega, by show n9 + 18 + 0 + 0 ≤ 6731839; omega⟩ (fun r3 μ1 hp4 => ?_)
  obtain ⟨rfl, rfl⟩ := hp4
  refine g_congr (ρ1 := rW σ (rM σ (nI F.1) a9)) (fun k hk => by rw [rW_b2 hk]) ?_
  have fin : GW p l e room_1 s m #[.ref b] below meth c Q 9 D A 67 ad (cL ad cy) (rW σ (rM σ (nI F.1) a9)) (k9 + 3 + 0 + 0) (n9 + 18 + 0 + 0) 385 [(6, .int r2), (5, .int (nI F.1)), (4, .int (nI (3 * t))), (0, .ref b), (1, .ref (ad 0)), (2, .ref (ad 49)), (3, .ref (ad 48))] [] := by
    refine g_goto X 1392 dL_law_385 (by decide) ?_
    refine g_ls (ls' := [(4, .int (nI (3 * t))), (0, .ref b), (1, .ref (ad 0)), (2, .ref (ad 49)), (3, .ref (ad 48))]) [2, 3, 4, 5, 6] rfl ?_
    exact g_widen (by omega) (by omega) (kk σ (nI F.1) a9 hKs)
  refine g_iload X dL_law_361 1 rfl ?_
  refine g_icmp_eq X 368 dL_law_363 (by decide) (fun _ => ?_) (fun h => absurd rfl h)
  refine g_iload X dL_law_368 1 rfl ?_
  refine g_if_ne X 385 dL_law_370 (by decide) (fun _ => fin) (fun h0 => ?_)
  have hz : F.1 = 0 := (nI_z (by omega)).mp h0
  refine g_aload_n X dL_law_373 6 rfl rfl ?_
  refine g_iconst X (v := nI 0) dL_law_374 (by decide) ?_
  refine g_lald X 48 (by omega) lL_out (pk_in 0 1 (by omega) rfl) dL_law_375 ?_
  refine g_iload X dL_law_376 0 rfl ?_
  refine g_i2l X dL_law_378 ?_
  refine g_lcmp X dL_law_379 ?_
  rw [show rW σ (rM σ (nI F.1) a9) 48 (nI 0).toNatClampNeg = r2 from (hs0 hz).trans (hp3 hz).symm]
  exact g_if_eq X 385 dL_law_380 (by decide) (fun _ => fin) (fun h => absurd lg_self h)
theorem xk_per {ρ : gSt} {x y : Int32} : (perF ρ x y).1 < 3 := by
  unfold perF
  repeat' split
  all_goals exact Nat.lt_of_sub_pos (Nat.le_of_ble_eq_true rfl)
theorem k_permit {p : Program} {l : Launch} {e : Env} {s : State} {m : MethodId} {below : List Frame} {meth : Method} {c : Code} {Q : State → Prop} {D : va_G} {cy : Nat → ClassId} {A : Nat → Prop} {b L : Nat} {xs : Nat → Int32} {ad : Nat → Nat} (Y : lwX p l m c s b L xs D cy A) (k9 n9 t : Nat) (ρ : gSt) (th a : Int32) (hK : gKp ρ t) (ht : 3 * t + 3 ≤ L) (hroom : k9 + 52 ≤ 788088 ∧ n9 + 299 ≤ 6731839) (kk : ∀ (ρ' : gSt) (th' a' : Int32), gKp ρ' (t + 1) → GW p l e room_1 s m #[.ref b] below meth c Q 9 D A 67 ad (cL ad cy) (rW ρ' (rM ρ' th' a')) (k9 + 52) (n9 + 299) 1392 [(4, .int (nI (3 * t))), (0, .ref b), (1, .ref (ad 0)), (2, .ref (ad 49)), (3, .ref (ad 48))] []) : GW p l e room_1 s m #[.ref b] below meth c Q 9 D A 67 ad (cL ad cy) (rW ρ (rM ρ th a)) (k9) (n9) 388 [(4, .int (nI (3 * t))), (0, .ref b), (1, .ref (ad 0)), (2, .ref (ad 49)), (3, .ref (ad 48))] [] := by
  obtain ⟨X, hE, hC, hXs, hbl, hbA, hL, hl0⟩ := Y
  have hL31 : L < 2 ^ 31 := by omega
  obtain ⟨T, S, d, hI⟩ := id hK
  refine g_aload_n X dL_law_388 2 rfl rfl ?_
  refine g_aload_n X dL_law_389 1 rfl rfl ?_
  refine g_iload X dL_law_390 0 rfl ?_
  refine g_iconst X (v := nI 1) dL_law_392 (by decide) ?_
  refine g_iadd X dL_law_393 ?_
  rw [nI_add]
  refine g_sld X hXs hbl hbA (3 * t + 1) (by omega) hL31 dL_law_394 ?_
  refine g_aload_n X dL_law_395 1 rfl rfl ?_
  refine g_iload X dL_law_396 0 rfl ?_
  refine g_iconst X (v := nI 2) dL_law_398 (by decide) ?_
  refine g_iadd X dL_law_399 ?_
  rw [nI_add]
  refine g_sld X hXs hbl hbA (3 * t + 2) (by omega) hL31 dL_law_400 ?_
  refine g_aload_n X dL_law_401 4 rfl rfl ?_
  refine g_hcall X hE hC 0 ρ (fun j hj => by rw [rW_C hj]) (c_L_permit l hl0 D cy ad ρ t T S d hI (xs (3 * t + 1)) (xs (3 * t + 2))) kl_L_98 ⟨rfl, rfl, Nat.le_of_ble_eq_true rfl, Nat.le_of_ble_eq_true rfl⟩ gSubL rfl rfl (Nat.le_of_ble_eq_true rfl) dL_law_402 ⟨by show k9 + 3 ≤ 788088; omega, by show n9 + 18 ≤ 6731839; omega⟩ (fun r ρ1 hp => ?_)
  obtain ⟨hr1, hr2, hr3⟩ := hp
  have hF3 : (perF ρ (xs (3 * t + 1)) (xs (3 * t + 2))).1 < 3 := xk_per
  have hKn : gKp (perF ρ (xs (3 * t + 1)) (xs (3 * t + 2))).2.2 (t + 1) := kp_per hK (by omega)
  obtain ⟨F, eF⟩ : ∃ F, F = perF ρ (xs (3 * t + 1)) (xs (3 * t + 2)) := ⟨_, rfl⟩
  rw [← eF] at hr1 hr2 hr3 hF3 hKn
  obtain ⟨σ, eσ⟩ : ∃ σ : gSt, σ = fun k => if k = 48 then ρ1 48 else F.2.2 k := ⟨_, rfl⟩
  have h48 : ∀ k, k < 48 → F.2.2 k = σ k := fun k hk => by rw [eσ]; exact (if_neg (by omega)).symm
  have h49 : ∀ k, k < 49 → ρ1 k = σ k := fun k hk => by
    by_cases h : k = 48
    · subst h
      rw [eσ]
      rfl
    · rw [← h48 k (by omega)]
      exact hr2 k (by omega)
  have hKs : gKp σ (t + 1) := kp_48 h48 hKn
  have hs0 : F.1 = 0 → σ 48 0 = F.2.1 := fun h => by rw [← h49 48 (by omega)]; exact hr3 h
  refine g_congr (ρ1 := rW σ (rM ρ th a)) (fun k hk => by rw [rW_b1 h49]) ?_
  rw [hr1]
  refine g_istore X [(5, .int (nI F.1)), (4, .int (nI (3 * t))), (0, .ref b), (1, .ref (ad 0)), (2, .ref (ad 49)), (3, .ref (ad 48))] dL_law_405 (by omega) rfl ?_
  refine g_aload_n X dL_law_407 4 rfl rfl ?_
  refine g_aload_n X dL_law_408 2 rfl rfl ?_
  refine g_iload X dL_law_409 1 rfl ?_
  refine g_iconst X (v := nI 1) dL_law_411 (by decide) ?_
  refine g_iadd X dL_law_412 ?_
  rw [nI_add]
  refine g_sld X hXs hbl hbA (3 * t + 1) (by omega) hL31 dL_law_413 ?_
  refine g_aload_n X dL_law_414 2 rfl rfl ?_
  refine g_iload X dL_law_415 1 rfl ?_
  refine g_iconst X (v := nI 2) dL_law_417 (by decide) ?_
  refine g_iadd X dL_law_418 ?_
  rw [nI_add]
  refine g_sld X hXs hbl hbA (3 * t + 2) (by omega) hL31 dL_law_419 ?_
  refine g_mcallVi_at X 49 49 (by rw [rW_M]; exact c_X5_permit l D cy (fun j => ad (49 + j)) ρ th a t T S d hI (xs (3 * t + 1)) (xs (3 * t + 2))) kl_L_100 ⟨rfl, rfl, Nat.le_of_ble_eq_true rfl, Nat.le_of_ble_eq_true rfl⟩ gSubLM (by omega) lL_M kv_X5 rfl rfl (Nat.le_of_ble_eq_true rfl) dL_law_420 ⟨by show k9 + 3 + 0 ≤ 788088; omega, by show n9 + 18 + 0 ≤ 6731839; omega⟩ (fun r2 μ1 hp2 => ?_)
  obtain ⟨a9, rfl, hp3⟩ := hp2
  rw [← eF] at hp3
  refine g_congr (ρ1 := rW σ (rM σ (nI F.1) a9)) (fun k hk => by rw [rW_b2 hk, ← eF, rM_48 h48]) ?_
  refine g_istore X [(6, .int r2), (5, .int (nI F.1)), (4, .int (nI (3 * t))), (0, .ref b), (1, .ref (ad 0)), (2, .ref (ad 49)), (3, .ref (ad 48))] dL_law_423 (by omega) rfl ?_
  refine g_aload_n X dL_law_425 5 rfl rfl ?_
  refine g_mcallVi_at X 49 49 (by rw [rW_M]; exact c_X5_thrown l D cy (fun j => ad (49 + j)) σ (nI F.1) a9) kl_L_85 ⟨rfl, rfl, Nat.le_of_ble_eq_true rfl, Nat.le_of_ble_eq_true rfl⟩ gSubLM (by omega) lL_M kv_X5 rfl rfl (Nat.le_of_ble_eq_true rfl) dL_law_426 ⟨by show k9 + 3 + 0 + 0 ≤ 788088; omega, by show n9 + 18 + 0 + 0 ≤ 6731839; omega⟩ (fun r3 μ1 hp4 => ?_)
  obtain ⟨rfl, rfl⟩ := hp4
  refine g_congr (ρ1 := rW σ (rM σ (nI F.1) a9)) (fun k hk => by rw [rW_b2 hk]) ?_
  have fin : GW p l e room_1 s m #[.ref b] below meth c Q 9 D A 67 ad (cL ad cy) (rW σ (rM σ (nI F.1) a9)) (k9 + 3 + 0 + 0) (n9 + 18 + 0 + 0) 453 [(6, .int r2), (5, .int (nI F.1)), (4, .int (nI (3 * t))), (0, .ref b), (1, .ref (ad 0)), (2, .ref (ad 49)), (3, .ref (ad 48))] [] := by
    refine g_goto X 1392 dL_law_453 (by decide) ?_
    refine g_ls (ls' := [(4, .int (nI (3 * t))), (0, .ref b), (1, .ref (ad 0)), (2, .ref (ad 49)), (3, .ref (ad 48))]) [2, 3, 4, 5, 6] rfl ?_
    exact g_widen (by omega) (by omega) (kk σ (nI F.1) a9 hKs)
  refine g_iload X dL_law_429 1 rfl ?_
  refine g_icmp_eq X 436 dL_law_431 (by decide) (fun _ => ?_) (fun h => absurd rfl h)
  refine g_iload X dL_law_436 1 rfl ?_
  refine g_if_ne X 453 dL_law_438 (by decide) (fun _ => fin) (fun h0 => ?_)
  have hz : F.1 = 0 := (nI_z (by omega)).mp h0
  refine g_aload_n X dL_law_441 6 rfl rfl ?_
  refine g_iconst X (v := nI 0) dL_law_442 (by decide) ?_
  refine g_lald X 48 (by omega) lL_out (pk_in 0 1 (by omega) rfl) dL_law_443 ?_
  refine g_iload X dL_law_444 0 rfl ?_
  refine g_i2l X dL_law_446 ?_
  refine g_lcmp X dL_law_447 ?_
  rw [show rW σ (rM σ (nI F.1) a9) 48 (nI 0).toNatClampNeg = r2 from (hs0 hz).trans (hp3 hz).symm]
  exact g_if_eq X 453 dL_law_448 (by decide) (fun _ => fin) (fun h => absurd lg_self h)
theorem xk_dam {ρ : gSt} {x y : Int32} : (damF ρ x y).1 < 3 := by
  unfold damF
  repeat' split
  all_goals exact Nat.lt_of_sub_pos (Nat.le_of_ble_eq_true rfl)
theorem k_setDamp {p : Program} {l : Launch} {e : Env} {s : State} {m : MethodId} {below : List Frame} {meth : Method} {c : Code} {Q : State → Prop} {D : va_G} {cy : Nat → ClassId} {A : Nat → Prop} {b L : Nat} {xs : Nat → Int32} {ad : Nat → Nat} (Y : lwX p l m c s b L xs D cy A) (k9 n9 t : Nat) (ρ : gSt) (th a : Int32) (hK : gKp ρ t) (ht : 3 * t + 3 ≤ L) (hroom : k9 + 52 ≤ 788088 ∧ n9 + 299 ≤ 6731839) (kk : ∀ (ρ' : gSt) (th' a' : Int32), gKp ρ' (t + 1) → GW p l e room_1 s m #[.ref b] below meth c Q 9 D A 67 ad (cL ad cy) (rW ρ' (rM ρ' th' a')) (k9 + 52) (n9 + 299) 1392 [(4, .int (nI (3 * t))), (0, .ref b), (1, .ref (ad 0)), (2, .ref (ad 49)), (3, .ref (ad 48))] []) : GW p l e room_1 s m #[.ref b] below meth c Q 9 D A 67 ad (cL ad cy) (rW ρ (rM ρ th a)) (k9) (n9) 456 [(4, .int (nI (3 * t))), (0, .ref b), (1, .ref (ad 0)), (2, .ref (ad 49)), (3, .ref (ad 48))] [] := by
  obtain ⟨X, hE, hC, hXs, hbl, hbA, hL, hl0⟩ := Y
  have hL31 : L < 2 ^ 31 := by omega
  obtain ⟨T, S, d, hI⟩ := id hK
  refine g_aload_n X dL_law_456 2 rfl rfl ?_
  refine g_aload_n X dL_law_457 1 rfl rfl ?_
  refine g_iload X dL_law_458 0 rfl ?_
  refine g_iconst X (v := nI 1) dL_law_460 (by decide) ?_
  refine g_iadd X dL_law_461 ?_
  rw [nI_add]
  refine g_sld X hXs hbl hbA (3 * t + 1) (by omega) hL31 dL_law_462 ?_
  refine g_aload_n X dL_law_463 1 rfl rfl ?_
  refine g_iload X dL_law_464 0 rfl ?_
  refine g_iconst X (v := nI 2) dL_law_466 (by decide) ?_
  refine g_iadd X dL_law_467 ?_
  rw [nI_add]
  refine g_sld X hXs hbl hbA (3 * t + 2) (by omega) hL31 dL_law_468 ?_
  refine g_aload_n X dL_law_469 4 rfl rfl ?_
  refine g_hcall X hE hC 0 ρ (fun j hj => by rw [rW_C hj]) (c_L_setDamp l hl0 D cy ad ρ t T S d hI (xs (3 * t + 1)) (xs (3 * t + 2))) kl_L_101 ⟨rfl, rfl, Nat.le_of_ble_eq_true rfl, Nat.le_of_ble_eq_true rfl⟩ gSubL rfl rfl (Nat.le_of_ble_eq_true rfl) dL_law_470 ⟨by show k9 + 3 ≤ 788088; omega, by show n9 + 18 ≤ 6731839; omega⟩ (fun r ρ1 hp => ?_)
  obtain ⟨hr1, hr2, hr3⟩ := hp
  have hF3 : (damF ρ (xs (3 * t + 1)) (xs (3 * t + 2))).1 < 3 := xk_dam
  have hKn : gKp (damF ρ (xs (3 * t + 1)) (xs (3 * t + 2))).2.2 (t + 1) := kp_dam hK (by omega)
  obtain ⟨F, eF⟩ : ∃ F, F = damF ρ (xs (3 * t + 1)) (xs (3 * t + 2)) := ⟨_, rfl⟩
  rw [← eF] at hr1 hr2 hr3 hF3 hKn
  obtain ⟨σ, eσ⟩ : ∃ σ : gSt, σ = fun k => if k = 48 then ρ1 48 else F.2.2 k := ⟨_, rfl⟩
  have h48 : ∀ k, k < 48 → F.2.2 k = σ k := fun k hk => by rw [eσ]; exact (if_neg (by omega)).symm
  have h49 : ∀ k, k < 49 → ρ1 k = σ k := fun k hk => by
    by_cases h : k = 48
    · subst h
      rw [eσ]
      rfl
    · rw [← h48 k (by omega)]
      exact hr2 k (by omega)
  have hKs : gKp σ (t + 1) := kp_48 h48 hKn
  have hs0 : F.1 = 0 → σ 48 0 = F.2.1 := fun h => by rw [← h49 48 (by omega)]; exact hr3 h
  refine g_congr (ρ1 := rW σ (rM ρ th a)) (fun k hk => by rw [rW_b1 h49]) ?_
  rw [hr1]
  refine g_istore X [(5, .int (nI F.1)), (4, .int (nI (3 * t))), (0, .ref b), (1, .ref (ad 0)), (2, .ref (ad 49)), (3, .ref (ad 48))] dL_law_473 (by omega) rfl ?_
  refine g_aload_n X dL_law_475 4 rfl rfl ?_
  refine g_aload_n X dL_law_476 2 rfl rfl ?_
  refine g_iload X dL_law_477 1 rfl ?_
  refine g_iconst X (v := nI 1) dL_law_479 (by decide) ?_
  refine g_iadd X dL_law_480 ?_
  rw [nI_add]
  refine g_sld X hXs hbl hbA (3 * t + 1) (by omega) hL31 dL_law_481 ?_
  refine g_aload_n X dL_law_482 2 rfl rfl ?_
  refine g_iload X dL_law_483 1 rfl ?_
  refine g_iconst X (v := nI 2) dL_law_485 (by decide) ?_
  refine g_iadd X dL_law_486 ?_
  rw [nI_add]
  refine g_sld X hXs hbl hbA (3 * t + 2) (by omega) hL31 dL_law_487 ?_
  refine g_mcallVi_at X 49 49 (by rw [rW_M]; exact c_X5_setDamp l D cy (fun j => ad (49 + j)) ρ th a t T S d hI (xs (3 * t + 1)) (xs (3 * t + 2))) kl_L_103 ⟨rfl, rfl, Nat.le_of_ble_eq_true rfl, Nat.le_of_ble_eq_true rfl⟩ gSubLM (by omega) lL_M kv_X5 rfl rfl (Nat.le_of_ble_eq_true rfl) dL_law_488 ⟨by show k9 + 3 + 0 ≤ 788088; omega, by show n9 + 18 + 0 ≤ 6731839; omega⟩ (fun r2 μ1 hp2 => ?_)
  obtain ⟨a9, rfl, hp3⟩ := hp2
  rw [← eF] at hp3
  refine g_congr (ρ1 := rW σ (rM σ (nI F.1) a9)) (fun k hk => by rw [rW_b2 hk, ← eF, rM_48 h48]) ?_
  refine g_istore X [(6, .int r2), (5, .int (nI F.1)), (4, .int (nI (3 * t))), (0, .ref b), (1, .ref (ad 0)), (2, .ref (ad 49)), (3, .ref (ad 48))] dL_law_491 (by omega) rfl ?_
  refine g_aload_n X dL_law_493 5 rfl rfl ?_
  refine g_mcallVi_at X 49 49 (by rw [rW_M]; exact c_X5_thrown l D cy (fun j => ad (49 + j)) σ (nI F.1) a9) kl_L_85 ⟨rfl, rfl, Nat.le_of_ble_eq_true rfl, Nat.le_of_ble_eq_true rfl⟩ gSubLM (by omega) lL_M kv_X5 rfl rfl (Nat.le_of_ble_eq_true rfl) dL_law_494 ⟨by show k9 + 3 + 0 + 0 ≤ 788088; omega, by show n9 + 18 + 0 + 0 ≤ 6731839; omega⟩ (fun r3 μ1 hp4 => ?_)
  obtain ⟨rfl, rfl⟩ := hp4
  refine g_congr (ρ1 := rW σ (rM σ (nI F.1) a9)) (fun k hk => by rw [rW_b2 hk]) ?_
  have fin : GW p l e room_1 s m #[.ref b] below meth c Q 9 D A 67 ad (cL ad cy) (rW σ (rM σ (nI F.1) a9)) (k9 + 3 + 0 + 0) (n9 + 18 + 0 + 0) 521 [(6, .int r2), (5, .int (nI F.1)), (4, .int (nI (3 * t))), (0, .ref b), (1, .ref (ad 0)), (2, .ref (ad 49)), (3, .ref (ad 48))] [] := by
    refine g_goto X 1392 dL_law_521 (by decide) ?_
    refine g_ls (ls' := [(4, .int (nI (3 * t))), (0, .ref b), (1, .ref (ad 0)), (2, .ref (ad 49)), (3, .ref (ad 48))]) [2, 3, 4, 5, 6] rfl ?_
    exact g_widen (by omega) (by omega) (kk σ (nI F.1) a9 hKs)
  refine g_iload X dL_law_497 1 rfl ?_
  refine g_icmp_eq X 504 dL_law_499 (by decide) (fun _ => ?_) (fun h => absurd rfl h)
  refine g_iload X dL_law_504 1 rfl ?_
  refine g_if_ne X 521 dL_law_506 (by decide) (fun _ => fin) (fun h0 => ?_)
  have hz : F.1 = 0 := (nI_z (by omega)).mp h0
  refine g_aload_n X dL_law_509 6 rfl rfl ?_
  refine g_iconst X (v := nI 0) dL_law_510 (by decide) ?_
  refine g_lald X 48 (by omega) lL_out (pk_in 0 1 (by omega) rfl) dL_law_511 ?_
  refine g_iload X dL_law_512 0 rfl ?_
  refine g_i2l X dL_law_514 ?_
  refine g_lcmp X dL_law_515 ?_
  rw [show rW σ (rM σ (nI F.1) a9) 48 (nI 0).toNatClampNeg = r2 from (hs0 hz).trans (hp3 hz).symm]
  exact g_if_eq X 521 dL_law_516 (by decide) (fun _ => fin) (fun h => absurd lg_self h)
theorem xk_pla {ρ : gSt} {x y : Int32} : (plaF ρ x y).1 < 3 := by
  unfold plaF
  repeat' split
  all_goals exact Nat.lt_of_sub_pos (Nat.le_of_ble_eq_true rfl)
theorem k_play {p : Program} {l : Launch} {e : Env} {s : State} {m : MethodId} {below : List Frame} {meth : Method} {c : Code} {Q : State → Prop} {D : va_G} {cy : Nat → ClassId} {A : Nat → Prop} {b L : Nat} {xs : Nat → Int32} {ad : Nat → Nat} (Y : lwX p l m c s b L xs D cy A) (k9 n9 t : Nat) (ρ : gSt) (th a : Int32) (hK : gKp ρ t) (ht : 3 * t + 3 ≤ L) (hroom : k9 + 52 ≤ 788088 ∧ n9 + 299 ≤ 6731839) (kk : ∀ (ρ' : gSt) (th' a' : Int32), gKp ρ' (t + 1) → GW p l e room_1 s m #[.ref b] below meth c Q 9 D A 67 ad (cL ad cy) (rW ρ' (rM ρ' th' a')) (k9 + 52) (n9 + 299) 1392 [(4, .int (nI (3 * t))), (0, .ref b), (1, .ref (ad 0)), (2, .ref (ad 49)), (3, .ref (ad 48))] []) : GW p l e room_1 s m #[.ref b] below meth c Q 9 D A 67 ad (cL ad cy) (rW ρ (rM ρ th a)) (k9) (n9) 524 [(4, .int (nI (3 * t))), (0, .ref b), (1, .ref (ad 0)), (2, .ref (ad 49)), (3, .ref (ad 48))] [] := by
  obtain ⟨X, hE, hC, hXs, hbl, hbA, hL, hl0⟩ := Y
  have hL31 : L < 2 ^ 31 := by omega
  obtain ⟨T, S, d, hI⟩ := id hK
  refine g_aload_n X dL_law_524 2 rfl rfl ?_
  refine g_aload_n X dL_law_525 1 rfl rfl ?_
  refine g_iload X dL_law_526 0 rfl ?_
  refine g_iconst X (v := nI 1) dL_law_528 (by decide) ?_
  refine g_iadd X dL_law_529 ?_
  rw [nI_add]
  refine g_sld X hXs hbl hbA (3 * t + 1) (by omega) hL31 dL_law_530 ?_
  refine g_aload_n X dL_law_531 1 rfl rfl ?_
  refine g_iload X dL_law_532 0 rfl ?_
  refine g_iconst X (v := nI 2) dL_law_534 (by decide) ?_
  refine g_iadd X dL_law_535 ?_
  rw [nI_add]
  refine g_sld X hXs hbl hbA (3 * t + 2) (by omega) hL31 dL_law_536 ?_
  refine g_aload_n X dL_law_537 4 rfl rfl ?_
  refine g_hcall X hE hC 0 ρ (fun j hj => by rw [rW_C hj]) (c_L_play l hl0 D cy ad ρ t T S d hI (xs (3 * t + 1)) (xs (3 * t + 2))) kl_L_104 ⟨rfl, rfl, Nat.le_of_ble_eq_true rfl, Nat.le_of_ble_eq_true rfl⟩ gSubL rfl rfl (Nat.le_of_ble_eq_true rfl) dL_law_538 ⟨by show k9 + 3 ≤ 788088; omega, by show n9 + 18 ≤ 6731839; omega⟩ (fun r ρ1 hp => ?_)
  obtain ⟨hr1, hr2, hr3⟩ := hp
  have hF3 : (plaF ρ (xs (3 * t + 1)) (xs (3 * t + 2))).1 < 3 := xk_pla
  have hKn : gKp (plaF ρ (xs (3 * t + 1)) (xs (3 * t + 2))).2.2 (t + 1) := kp_pla hK (by omega)
  obtain ⟨F, eF⟩ : ∃ F, F = plaF ρ (xs (3 * t + 1)) (xs (3 * t + 2)) := ⟨_, rfl⟩
  rw [← eF] at hr1 hr2 hr3 hF3 hKn
  obtain ⟨σ, eσ⟩ : ∃ σ : gSt, σ = fun k => if k = 48 then ρ1 48 else F.2.2 k := ⟨_, rfl⟩
  have h48 : ∀ k, k < 48 → F.2.2 k = σ k := fun k hk => by rw [eσ]; exact (if_neg (by omega)).symm
  have h49 : ∀ k, k < 49 → ρ1 k = σ k := fun k hk => by
    by_cases h : k = 48
    · subst h
      rw [eσ]
      rfl
    · rw [← h48 k (by omega)]
      exact hr2 k (by omega)
  have hKs : gKp σ (t + 1) := kp_48 h48 hKn
  have hs0 : F.1 = 0 → σ 48 0 = F.2.1 := fun h => by rw [← h49 48 (by omega)]; exact hr3 h
  refine g_congr (ρ1 := rW σ (rM ρ th a)) (fun k hk => by rw [rW_b1 h49]) ?_
  rw [hr1]
  refine g_istore X [(5, .int (nI F.1)), (4, .int (nI (3 * t))), (0, .ref b), (1, .ref (ad 0)), (2, .ref (ad 49)), (3, .ref (ad 48))] dL_law_541 (by omega) rfl ?_
  refine g_aload_n X dL_law_543 4 rfl rfl ?_
  refine g_aload_n X dL_law_544 2 rfl rfl ?_
  refine g_iload X dL_law_545 1 rfl ?_
  refine g_iconst X (v := nI 1) dL_law_547 (by decide) ?_
  refine g_iadd X dL_law_548 ?_
  rw [nI_add]
  refine g_sld X hXs hbl hbA (3 * t + 1) (by omega) hL31 dL_law_549 ?_
  refine g_aload_n X dL_law_550 2 rfl rfl ?_
  refine g_iload X dL_law_551 1 rfl ?_
  refine g_iconst X (v := nI 2) dL_law_553 (by decide) ?_
  refine g_iadd X dL_law_554 ?_
  rw [nI_add]
  refine g_sld X hXs hbl hbA (3 * t + 2) (by omega) hL31 dL_law_555 ?_
  refine g_mcallVi_at X 49 49 (by rw [rW_M]; exact c_X5_play l D cy (fun j => ad (49 + j)) ρ th a t T S d hI (xs (3 * t + 1)) (xs (3 * t + 2))) kl_L_106 ⟨rfl, rfl, Nat.le_of_ble_eq_true rfl, Nat.le_of_ble_eq_true rfl⟩ gSubLM (by omega) lL_M kv_X5 rfl rfl (Nat.le_of_ble_eq_true rfl) dL_law_556 ⟨by show k9 + 3 + 0 ≤ 788088; omega, by show n9 + 18 + 0 ≤ 6731839; omega⟩ (fun r2 μ1 hp2 => ?_)
  obtain ⟨a9, rfl, hp3⟩ := hp2
  rw [← eF] at hp3
  refine g_congr (ρ1 := rW σ (rM σ (nI F.1) a9)) (fun k hk => by rw [rW_b2 hk, ← eF, rM_48 h48]) ?_
  refine g_istore X [(6, .int r2), (5, .int (nI F.1)), (4, .int (nI (3 * t))), (0, .ref b), (1, .ref (ad 0)), (2, .ref (ad 49)), (3, .ref (ad 48))] dL_law_559 (by omega) rfl ?_
  refine g_aload_n X dL_law_561 5 rfl rfl ?_
  refine g_mcallVi_at X 49 49 (by rw [rW_M]; exact c_X5_thrown l D cy (fun j => ad (49 + j)) σ (nI F.1) a9) kl_L_85 ⟨rfl, rfl, Nat.le_of_ble_eq_true rfl, Nat.le_of_ble_eq_true rfl⟩ gSubLM (by omega) lL_M kv_X5 rfl rfl (Nat.le_of_ble_eq_true rfl) dL_law_562 ⟨by show k9 + 3 + 0 + 0 ≤ 788088; omega, by show n9 + 18 + 0 + 0 ≤ 6731839; omega⟩ (fun r3 μ1 hp4 => ?_)
  obtain ⟨rfl, rfl⟩ := hp4
  refine g_congr (ρ1 := rW σ (rM σ (nI F.1) a9)) (fun k hk => by rw [rW_b2 hk]) ?_
  have fin : GW p l e room_1 s m #[.ref b] below meth c Q 9 D A 67 ad (cL ad cy) (rW σ (rM σ (nI F.1) a9)) (k9 + 3 + 0 + 0) (n9 + 18 + 0 + 0) 589 [(6, .int r2), (5, .int (nI F.1)), (4, .int (nI (3 * t))), (0, .ref b), (1, .ref (ad 0)), (2, .ref (ad 49)), (3, .ref (ad 48))] [] := by
    refine g_goto X 1392 dL_law_589 (by decide) ?_
    refine g_ls (ls' := [(4, .int (nI (3 * t))), (0, .ref b), (1, .ref (ad 0)), (2, .ref (ad 49)), (3, .ref (ad 48))]) [2, 3, 4, 5, 6] rfl ?_
    exact g_widen (by omega) (by omega) (kk σ (nI F.1) a9 hKs)
  refine g_iload X dL_law_565 1 rfl ?_
  refine g_icmp_eq X 572 dL_law_567 (by decide) (fun _ => ?_) (fun h => absurd rfl h)
  refine g_iload X dL_law_572 1 rfl ?_
  refine g_if_ne X 589 dL_law_574 (by decide) (fun _ => fin) (fun h0 => ?_)
  have hz : F.1 = 0 := (nI_z (by omega)).mp h0
  refine g_aload_n X dL_law_577 6 rfl rfl ?_
  refine g_iconst X (v := nI 0) dL_law_578 (by decide) ?_
  refine g_lald X 48 (by omega) lL_out (pk_in 0 1 (by omega) rfl) dL_law_579 ?_
  refine g_iload X dL_law_580 0 rfl ?_
  refine g_i2l X dL_law_582 ?_
  refine g_lcmp X dL_law_583 ?_
  rw [show rW σ (rM σ (nI F.1) a9) 48 (nI 0).toNatClampNeg = r2 from (hs0 hz).trans (hp3 hz).symm]
  exact g_if_eq X 589 dL_law_584 (by decide) (fun _ => fin) (fun h => absurd lg_self h)
theorem xk_tun {ρ : gSt} {x y : Int32} : (tunF ρ x y).1 < 3 := by
  unfold tunF
  repeat' split
  all_goals exact Nat.lt_of_sub_pos (Nat.le_of_ble_eq_true rfl)
theorem k_tune {p : Program} {l : Launch} {e : Env} {s : State} {m : MethodId} {below : List Frame} {meth : Method} {c : Code} {Q : State → Prop} {D : va_G} {cy : Nat → ClassId} {A : Nat → Prop} {b L : Nat} {xs : Nat → Int32} {ad : Nat → Nat} (Y : lwX p l m c s b L xs D cy A) (k9 n9 t : Nat) (ρ : gSt) (th a : Int32) (hK : gKp ρ t) (ht : 3 * t + 3 ≤ L) (hroom : k9 + 52 ≤ 788088 ∧ n9 + 299 ≤ 6731839) (kk : ∀ (ρ' : gSt) (th' a' : Int32), gKp ρ' (t + 1) → GW p l e room_1 s m #[.ref b] below meth c Q 9 D A 67 ad (cL ad cy) (rW ρ' (rM ρ' th' a')) (k9 + 52) (n9 + 299) 1392 [(4, .int (nI (3 * t))), (0, .ref b), (1, .ref (ad 0)), (2, .ref (ad 49)), (3, .ref (ad 48))] []) : GW p l e room_1 s m #[.ref b] below meth c Q 9 D A 67 ad (cL ad cy) (rW ρ (rM ρ th a)) (k9) (n9) 592 [(4, .int (nI (3 * t))), (0, .ref b), (1, .ref (ad 0)), (2, .ref (ad 49)), (3, .ref (ad 48))] [] := by
  obtain ⟨X, hE, hC, hXs, hbl, hbA, hL, hl0⟩ := Y
  have hL31 : L < 2 ^ 31 := by omega
  obtain ⟨T, S, d, hI⟩ := id hK
  refine g_aload_n X dL_law_592 2 rfl rfl ?_
  refine g_aload_n X dL_law_593 1 rfl rfl ?_
  refine g_iload X dL_law_594 0 rfl ?_
  refine g_iconst X (v := nI 1) dL_law_596 (by decide) ?_
  refine g_iadd X dL_law_597 ?_
  rw [nI_add]
  refine g_sld X hXs hbl hbA (3 * t + 1) (by omega) hL31 dL_law_598 ?_
  refine g_aload_n X dL_law_599 1 rfl rfl ?_
  refine g_iload X dL_law_600 0 rfl ?_
  refine g_iconst X (v := nI 2) dL_law_602 (by decide) ?_
  refine g_iadd X dL_law_603 ?_
  rw [nI_add]
  refine g_sld X hXs hbl hbA (3 * t + 2) (by omega) hL31 dL_law_604 ?_
  refine g_aload_n X dL_law_605 4 rfl rfl ?_
  refine g_hcall X hE hC 0 ρ (fun j hj => by rw [rW_C hj]) (c_L_tune l hl0 D cy ad ρ t T S d hI (xs (3 * t + 1)) (xs (3 * t + 2))) kl_L_107 ⟨rfl, rfl, Nat.le_of_ble_eq_true rfl, Nat.le_of_ble_eq_true rfl⟩ gSubL rfl rfl (Nat.le_of_ble_eq_true rfl) dL_law_606 ⟨by show k9 + 3 ≤ 788088; omega, by show n9 + 18 ≤ 6731839; omega⟩ (fun r ρ1 hp => ?_)
  obtain ⟨hr1, hr2, hr3⟩ := hp
  have hF3 : (tunF ρ (xs (3 * t + 1)) (xs (3 * t + 2))).1 < 3 := xk_tun
  have hKn : gKp (tunF ρ (xs (3 * t + 1)) (xs (3 * t + 2))).2.2 (t + 1) := kp_tun hK (by omega)
  obtain ⟨F, eF⟩ : ∃ F, F = tunF ρ (xs (3 * t + 1)) (xs (3 * t + 2)) := ⟨_, rfl⟩
  rw [← eF] at hr1 hr2 hr3 hF3 hKn
  obtain ⟨σ, eσ⟩ : ∃ σ : gSt, σ = fun k => if k = 48 then ρ1 48 else F.2.2 k := ⟨_, rfl⟩
  have h48 : ∀ k, k < 48 → F.2.2 k = σ k := fun k hk => by rw [eσ]; exact (if_neg (by omega)).symm
  have h49 : ∀ k, k < 49 → ρ1 k = σ k := fun k hk => by
    by_cases h : k = 48
    · subst h
      rw [eσ]
      rfl
    · rw [← h48 k (by omega)]
      exact hr2 k (by omega)
  have hKs : gKp σ (t + 1) := kp_48 h48 hKn
  have hs0 : F.1 = 0 → σ 48 0 = F.2.1 := fun h => by rw [← h49 48 (by omega)]; exact hr3 h
  refine g_congr (ρ1 := rW σ (rM ρ th a)) (fun k hk => by rw [rW_b1 h49]) ?_
  rw [hr1]
  refine g_istore X [(5, .int (nI F.1)), (4, .int (nI (3 * t))), (0, .ref b), (1, .ref (ad 0)), (2, .ref (ad 49)), (3, .ref (ad 48))] dL_law_609 (by omega) rfl ?_
  refine g_aload_n X dL_law_611 4 rfl rfl ?_
  refine g_aload_n X dL_law_612 2 rfl rfl ?_
  refine g_iload X dL_law_613 1 rfl ?_
  refine g_iconst X (v := nI 1) dL_law_615 (by decide) ?_
  refine g_iadd X dL_law_616 ?_
  rw [nI_add]
  refine g_sld X hXs hbl hbA (3 * t + 1) (by omega) hL31 dL_law_617 ?_
  refine g_aload_n X dL_law_618 2 rfl rfl ?_
  refine g_iload X dL_law_619 1 rfl ?_
  refine g_iconst X (v := nI 2) dL_law_621 (by decide) ?_
  refine g_iadd X dL_law_622 ?_
  rw [nI_add]
  refine g_sld X hXs hbl hbA (3 * t + 2) (by omega) hL31 dL_law_623 ?_
  refine g_mcallVi_at X 49 49 (by rw [rW_M]; exact c_X5_tune l D cy (fun j => ad (49 + j)) ρ th a t T S d hI (xs (3 * t + 1)) (xs (3 * t + 2))) kl_L_109 ⟨rfl, rfl, Nat.le_of_ble_eq_true rfl, Nat.le_of_ble_eq_true rfl⟩ gSubLM (by omega) lL_M kv_X5 rfl rfl (Nat.le_of_ble_eq_true rfl) dL_law_624 ⟨by show k9 + 3 + 0 ≤ 788088; omega, by show n9 + 18 + 0 ≤ 6731839; omega⟩ (fun r2 μ1 hp2 => ?_)
  obtain ⟨a9, rfl, hp3⟩ := hp2
  rw [← eF] at hp3
  refine g_congr (ρ1 := rW σ (rM σ (nI F.1) a9)) (fun k hk => by rw [rW_b2 hk, ← eF, rM_48 h48]) ?_
  refine g_istore X [(6, .int r2), (5, .int (nI F.1)), (4, .int (nI (3 * t))), (0, .ref b), (1, .ref (ad 0)), (2, .ref (ad 49)), (3, .ref (ad 48))] dL_law_627 (by omega) rfl ?_
  refine g_aload_n X dL_law_629 5 rfl rfl ?_
  refine g_mcallVi_at X 49 49 (by rw [rW_M]; exact c_X5_thrown l D cy (fun j => ad (49 + j)) σ (nI F.1) a9) kl_L_85 ⟨rfl, rfl, Nat.le_of_ble_eq_true rfl, Nat.le_of_ble_eq_true rfl⟩ gSubLM (by omega) lL_M kv_X5 rfl rfl (Nat.le_of_ble_eq_true rfl) dL_law_630 ⟨by show k9 + 3 + 0 + 0 ≤ 788088; omega, by show n9 + 18 + 0 + 0 ≤ 6731839; omega⟩ (fun r3 μ1 hp4 => ?_)
  obtain ⟨rfl, rfl⟩ := hp4
  refine g_congr (ρ1 := rW σ (rM σ (nI F.1) a9)) (fun k hk => by rw [rW_b2 hk]) ?_
  have fin : GW p l e room_1 s m #[.ref b] below meth c Q 9 D A 67 ad (cL ad cy) (rW σ (rM σ (nI F.1) a9)) (k9 + 3 + 0 + 0) (n9 + 18 + 0 + 0) 657 [(6, .int r2), (5, .int (nI F.1)), (4, .int (nI (3 * t))), (0, .ref b), (1, .ref (ad 0)), (2, .ref (ad 49)), (3, .ref (ad 48))] [] := by
    refine g_goto X 1392 dL_law_657 (by decide) ?_
    refine g_ls (ls' := [(4, .int (nI (3 * t))), (0, .ref b), (1, .ref (ad 0)), (2, .ref (ad 49)), (3, .ref (ad 48))]) [2, 3, 4, 5, 6] rfl ?_
    exact g_widen (by omega) (by omega) (kk σ (nI F.1) a9 hKs)
  refine g_iload X dL_law_633 1 rfl ?_
  refine g_icmp_eq X 640 dL_law_635 (by decide) (fun _ => ?_) (fun h => absurd rfl h)
  refine g_iload X dL_law_640 1 rfl ?_
  refine g_if_ne X 657 dL_law_642 (by decide) (fun _ => fin) (fun h0 => ?_)
  have hz : F.1 = 0 := (nI_z (by omega)).mp h0
  refine g_aload_n X dL_law_645 6 rfl rfl ?_
  refine g_iconst X (v := nI 0) dL_law_646 (by decide) ?_
  refine g_lald X 48 (by omega) lL_out (pk_in 0 1 (by omega) rfl) dL_law_647 ?_
  refine g_iload X dL_law_648 0 rfl ?_
  refine g_i2l X dL_law_650 ?_
  refine g_lcmp X dL_law_651 ?_
  rw [show rW σ (rM σ (nI F.1) a9) 48 (nI 0).toNatClampNeg = r2 from (hs0 hz).trans (hp3 hz).symm]
  exact g_if_eq X 657 dL_law_652 (by decide) (fun _ => fin) (fun h => absurd lg_self h)
theorem xk_fel {ρ : gSt} {x : Int32} : (felF ρ x).1 < 3 := by
  unfold felF
  repeat' split
  all_goals exact Nat.lt_of_sub_pos (Nat.le_of_ble_eq_true rfl)
theorem k_felt {p : Program} {l : Launch} {e : Env} {s : State} {m : MethodId} {below : List Frame} {meth : Method} {c : Code} {Q : State → Prop} {D : va_G} {cy : Nat → ClassId} {A : Nat → Prop} {b L : Nat} {xs : Nat → Int32} {ad : Nat → Nat} (Y : lwX p l m c s b L xs D cy A) (k9 n9 t : Nat) (ρ : gSt) (th a : Int32) (hK : gKp ρ t) (ht : 3 * t + 3 ≤ L) (hroom : k9 + 52 ≤ 788088 ∧ n9 + 299 ≤ 6731839) (kk : ∀ (ρ' : gSt) (th' a' : Int32), gKp ρ' (t + 1) → GW p l e room_1 s m #[.ref b] below meth c Q 9 D A 67 ad (cL ad cy) (rW ρ' (rM ρ' th' a')) (k9 + 52) (n9 + 299) 1392 [(4, .int (nI (3 * t))), (0, .ref b), (1, .ref (ad 0)), (2, .ref (ad 49)), (3, .ref (ad 48))] []) : GW p l e room_1 s m #[.ref b] below meth c Q 9 D A 67 ad (cL ad cy) (rW ρ (rM ρ th a)) (k9) (n9) 660 [(4, .int (nI (3 * t))), (0, .ref b), (1, .ref (ad 0)), (2, .ref (ad 49)), (3, .ref (ad 48))] [] := by
  obtain ⟨X, hE, hC, hXs, hbl, hbA, hL, hl0⟩ := Y
  have hL31 : L < 2 ^ 31 := by omega
  obtain ⟨T, S, d, hI⟩ := id hK
  refine g_aload_n X dL_law_660 2 rfl rfl ?_
  refine g_aload_n X dL_law_661 1 rfl rfl ?_
  refine g_iload X dL_law_662 0 rfl ?_
  refine g_iconst X (v := nI 1) dL_law_664 (by decide) ?_
  refine g_iadd X dL_law_665 ?_
  rw [nI_add]
  refine g_sld X hXs hbl hbA (3 * t + 1) (by omega) hL31 dL_law_666 ?_
  refine g_aload_n X dL_law_667 4 rfl rfl ?_
  refine g_hcall X hE hC 0 ρ (fun j hj => by rw [rW_C hj]) (c_L_felt l hl0 D cy ad ρ t T S d hI (xs (3 * t + 1))) kl_L_110 ⟨rfl, rfl, Nat.le_of_ble_eq_true rfl, Nat.le_of_ble_eq_true rfl⟩ gSubL rfl rfl (Nat.le_of_ble_eq_true rfl) dL_law_668 ⟨by show k9 + 3 ≤ 788088; omega, by show n9 + 18 ≤ 6731839; omega⟩ (fun r ρ1 hp => ?_)
  obtain ⟨hr1, hr2, hr3⟩ := hp
  have hF3 : (felF ρ (xs (3 * t + 1))).1 < 3 := xk_fel
  have hKn : gKp (felF ρ (xs (3 * t + 1))).2.2 (t + 1) := kp_fel hK (by omega)
  obtain ⟨F, eF⟩ : ∃ F, F = felF ρ (xs (3 * t + 1)) := ⟨_, rfl⟩
  rw [← eF] at hr1 hr2 hr3 hF3 hKn
  obtain ⟨σ, eσ⟩ : ∃ σ : gSt, σ = fun k => if k = 48 then ρ1 48 else F.2.2 k := ⟨_, rfl⟩
  have h48 : ∀ k, k < 48 → F.2.2 k = σ k := fun k hk => by rw [eσ]; exact (if_neg (by omega)).symm
  have h49 : ∀ k, k < 49 → ρ1 k = σ k := fun k hk => by
    by_cases h : k = 48
    · subst h
      rw [eσ]
      rfl
    · rw [← h48 k (by omega)]
      exact hr2 k (by omega)
  have hKs : gKp σ (t + 1) := kp_48 h48 hKn
  have hs0 : F.1 = 0 → σ 48 0 = F.2.1 := fun h => by rw [← h49 48 (by omega)]; exact hr3 h
  refine g_congr (ρ1 := rW σ (rM ρ th a)) (fun k hk => by rw [rW_b1 h49]) ?_
  rw [hr1]
  refine g_istore X [(5, .int (nI F.1)), (4, .int (nI (3 * t))), (0, .ref b), (1, .ref (ad 0)), (2, .ref (ad 49)), (3, .ref (ad 48))] dL_law_671 (by omega) rfl ?_
  refine g_aload_n X dL_law_673 4 rfl rfl ?_
  refine g_aload_n X dL_law_674 2 rfl rfl ?_
  refine g_iload X dL_law_675 1 rfl ?_
  refine g_iconst X (v := nI 1) dL_law_677 (by decide) ?_
  refine g_iadd X dL_law_678 ?_
  rw [nI_add]
  refine g_sld X hXs hbl hbA (3 * t + 1) (by omega) hL31 dL_law_679 ?_
  refine g_mcallVi_at X 49 49 (by rw [rW_M]; exact c_X5_felt l D cy (fun j => ad (49 + j)) ρ th a t T S d hI (xs (3 * t + 1))) kl_L_113 ⟨rfl, rfl, Nat.le_of_ble_eq_true rfl, Nat.le_of_ble_eq_true rfl⟩ gSubLM (by omega) lL_M kv_X5 rfl rfl (Nat.le_of_ble_eq_true rfl) dL_law_680 ⟨by show k9 + 3 + 0 ≤ 788088; omega, by show n9 + 18 + 0 ≤ 6731839; omega⟩ (fun r2 μ1 hp2 => ?_)
  obtain ⟨a9, rfl, hp3⟩ := hp2
  rw [← eF] at hp3
  refine g_congr (ρ1 := rW σ (rM σ (nI F.1) a9)) (fun k hk => by rw [rW_b2 hk, ← eF, rM_48 h48]) ?_
  refine g_istore X [(6, .int r2), (5, .int (nI F.1)), (4, .int (nI (3 * t))), (0, .ref b), (1, .ref (ad 0)), (2, .ref (ad 49)), (3, .ref (ad 48))] dL_law_683 (by omega) rfl ?_
  refine g_aload_n X dL_law_685 5 rfl rfl ?_
  refine g_mcallVi_at X 49 49 (by rw [rW_M]; exact c_X5_thrown l D cy (fun j => ad (49 + j)) σ (nI F.1) a9) kl_L_85 ⟨rfl, rfl, Nat.le_of_ble_eq_true rfl, Nat.le_of_ble_eq_true rfl⟩ gSubLM (by omega) lL_M kv_X5 rfl rfl (Nat.le_of_ble_eq_true rfl) dL_law_686 ⟨by show k9 + 3 + 0 + 0 ≤ 788088; omega, by show n9 + 18 + 0 + 0 ≤ 6731839; omega⟩ (fun r3 μ1 hp4 => ?_)
  obtain ⟨rfl, rfl⟩ := hp4
  refine g_congr (ρ1 := rW σ (rM σ (nI F.1) a9)) (fun k hk => by rw [rW_b2 hk]) ?_
  have fin : GW p l e room_1 s m #[.ref b] below meth c Q 9 D A 67 ad (cL ad cy) (rW σ (rM σ (nI F.1) a9)) (k9 + 3 + 0 + 0) (n9 + 18 + 0 + 0) 713 [(6, .int r2), (5, .int (nI F.1)), (4, .int (nI (3 * t))), (0, .ref b), (1, .ref (ad 0)), (2, .ref (ad 49)), (3, .ref (ad 48))] [] := by
    refine g_goto X 1392 dL_law_713 (by decide) ?_
    refine g_ls (ls' := [(4, .int (nI (3 * t))), (0, .ref b), (1, .ref (ad 0)), (2, .ref (ad 49)), (3, .ref (ad 48))]) [2, 3, 4, 5, 6] rfl ?_
    exact g_widen (by omega) (by omega) (kk σ (nI F.1) a9 hKs)
  refine g_iload X dL_law_689 1 rfl ?_
  refine g_icmp_eq X 696 dL_law_691 (by decide) (fun _ => ?_) (fun h => absurd rfl h)
  refine g_iload X dL_law_696 1 rfl ?_
  refine g_if_ne X 713 dL_law_698 (by decide) (fun _ => fin) (fun h0 => ?_)
  have hz : F.1 = 0 := (nI_z (by omega)).mp h0
  refine g_aload_n X dL_law_701 6 rfl rfl ?_
  refine g_iconst X (v := nI 0) dL_law_702 (by decide) ?_
  refine g_lald X 48 (by omega) lL_out (pk_in 0 1 (by omega) rfl) dL_law_703 ?_
  refine g_iload X dL_law_704 0 rfl ?_
  refine g_i2l X dL_law_706 ?_
  refine g_lcmp X dL_law_707 ?_
  rw [show rW σ (rM σ (nI F.1) a9) 48 (nI 0).toNatClampNeg = r2 from (hs0 hz).trans (hp3 hz).symm]
  exact g_if_eq X 713 dL_law_708 (by decide) (fun _ => fin) (fun h => absurd lg_self h)
theorem xk_pip {ρ : gSt} {x y : Int32} : (pipF ρ x y).1 < 3 := by
  unfold pipF
  repeat' split
  all_goals exact Nat.lt_of_sub_pos (Nat.le_of_ble_eq_true rfl)
theorem k_pipe {p : Program} {l : Launch} {e : Env} {s : State} {m : MethodId} {below : List Frame} {meth : Method} {c : Code} {Q : State → Prop} {D : va_G} {cy : Nat → ClassId} {A : Nat → Prop} {b L : Nat} {xs : Nat → Int32} {ad : Nat → Nat} (Y : lwX p l m c s b L xs D cy A) (k9 n9 t : Nat) (ρ : gSt) (th a : Int32) (hK : gKp ρ t) (ht : 3 * t + 3 ≤ L) (hroom : k9 + 52 ≤ 788088 ∧ n9 + 299 ≤ 6731839) (kk : ∀ (ρ' : gSt) (th' a' : Int32), gKp ρ' (t + 1) → GW p l e room_1 s m #[.ref b] below meth c Q 9 D A 67 ad (cL ad cy) (rW ρ' (rM ρ' th' a')) (k9 + 52) (n9 + 299) 1392 [(4, .int (nI (3 * t))), (0, .ref b), (1, .ref (ad 0)), (2, .ref (ad 49)), (3, .ref (ad 48))] []) : GW p l e room_1 s m #[.ref b] below meth c Q 9 D A 67 ad (cL ad cy) (rW ρ (rM ρ th a)) (k9) (n9) 729 [(4, .int (nI (3 * t))), (0, .ref b), (1, .ref (ad 0)), (2, .ref (ad 49)), (3, .ref (ad 48))] [] := by
  obtain ⟨X, hE, hC, hXs, hbl, hbA, hL, hl0⟩ := Y
  have hL31 : L < 2 ^ 31 := by omega
  obtain ⟨T, S, d, hI⟩ := id hK
  refine g_aload_n X dL_law_729 2 rfl rfl ?_
  refine g_aload_n X dL_law_730 1 rfl rfl ?_
  refine g_iload X dL_law_731 0 rfl ?_
  refine g_iconst X (v := nI 1) dL_law_733 (by decide) ?_
  refine g_iadd X dL_law_734 ?_
  rw [nI_add]
  refine g_sld X hXs hbl hbA (3 * t + 1) (by omega) hL31 dL_law_735 ?_
  refine g_aload_n X dL_law_736 1 rfl rfl ?_
  refine g_iload X dL_law_737 0 rfl ?_
  refine g_iconst X (v := nI 2) dL_law_739 (by decide) ?_
  refine g_iadd X dL_law_740 ?_
  rw [nI_add]
  refine g_sld X hXs hbl hbA (3 * t + 2) (by omega) hL31 dL_law_741 ?_
  refine g_aload_n X dL_law_742 4 rfl rfl ?_
  refine g_hcall X hE hC 0 ρ (fun j hj => by rw [rW_C hj]) (c_L_pipe l hl0 D cy ad ρ t T S d hI (xs (3 * t + 1)) (xs (3 * t + 2))) kl_L_118 ⟨rfl, rfl, Nat.le_of_ble_eq_true rfl, Nat.le_of_ble_eq_true rfl⟩ gSubL rfl rfl (Nat.le_of_ble_eq_true rfl) dL_law_743 ⟨by show k9 + 3 ≤ 788088; omega, by show n9 + 18 ≤ 6731839; omega⟩ (fun r ρ1 hp => ?_)
  obtain ⟨hr1, hr2, hr3⟩ := hp
  have hF3 : (pipF ρ (xs (3 * t + 1)) (xs (3 * t + 2))).1 < 3 := xk_pip
  have hKn : gKp (pipF ρ (xs (3 * t + 1)) (xs (3 * t + 2))).2.2 (t + 1) := kp_pip hK (by omega)
  obtain ⟨F, eF⟩ : ∃ F, F = pipF ρ (xs (3 * t + 1)) (xs (3 * t + 2)) := ⟨_, rfl⟩
  rw [← eF] at hr1 hr2 hr3 hF3 hKn
  obtain ⟨σ, eσ⟩ : ∃ σ : gSt, σ = fun k => if k = 48 then ρ1 48 else F.2.2 k := ⟨_, rfl⟩
  have h48 : ∀ k, k < 48 → F.2.2 k = σ k := fun k hk => by rw [eσ]; exact (if_neg (by omega)).symm
  have h49 : ∀ k, k < 49 → ρ1 k = σ k := fun k hk => by
    by_cases h : k = 48
    · subst h
      rw [eσ]
      rfl
    · rw [← h48 k (by omega)]
      exact hr2 k (by omega)
  have hKs : gKp σ (t + 1) := kp_48 h48 hKn
  have hs0 : F.1 = 0 → σ 48 0 = F.2.1 := fun h => by rw [← h49 48 (by omega)]; exact hr3 h
  refine g_congr (ρ1 := rW σ (rM ρ th a)) (fun k hk => by rw [rW_b1 h49]) ?_
  rw [hr1]
  refine g_istore X [(5, .int (nI F.1)), (4, .int (nI (3 * t))), (0, .ref b), (1, .ref (ad 0)), (2, .ref (ad 49)), (3, .ref (ad 48))] dL_law_746 (by omega) rfl ?_
  refine g_aload_n X dL_law_748 4 rfl rfl ?_
  refine g_aload_n X dL_law_749 2 rfl rfl ?_
  refine g_iload X dL_law_750 1 rfl ?_
  refine g_iconst X (v := nI 1) dL_law_752 (by decide) ?_
  refine g_iadd X dL_law_753 ?_
  rw [nI_add]
  refine g_sld X hXs hbl hbA (3 * t + 1) (by omega) hL31 dL_law_754 ?_
  refine g_aload_n X dL_law_755 2 rfl rfl ?_
  refine g_iload X dL_law_756 1 rfl ?_
  refine g_iconst X (v := nI 2) dL_law_758 (by decide) ?_
  refine g_iadd X dL_law_759 ?_
  rw [nI_add]
  refine g_sld X hXs hbl hbA (3 * t + 2) (by omega) hL31 dL_law_760 ?_
  refine g_mcallVi_at X 49 49 (by rw [rW_M]; exact c_X5_pipe l D cy (fun j => ad (49 + j)) ρ th a t T S d hI (xs (3 * t + 1)) (xs (3 * t + 2))) kl_L_120 ⟨rfl, rfl, Nat.le_of_ble_eq_true rfl, Nat.le_of_ble_eq_true rfl⟩ gSubLM (by omega) lL_M kv_X5 rfl rfl (Nat.le_of_ble_eq_true rfl) dL_law_761 ⟨by show k9 + 3 + 0 ≤ 788088; omega, by show n9 + 18 + 0 ≤ 6731839; omega⟩ (fun r2 μ1 hp2 => ?_)
  obtain ⟨a9, rfl, hp3⟩ := hp2
  rw [← eF] at hp3
  refine g_congr (ρ1 := rW σ (rM σ (nI F.1) a9)) (fun k hk => by rw [rW_b2 hk, ← eF, rM_48 h48]) ?_
  refine g_istore X [(6, .int r2), (5, .int (nI F.1)), (4, .int (nI (3 * t))), (0, .ref b), (1, .ref (ad 0)), (2, .ref (ad 49)), (3, .ref (ad 48))] dL_law_764 (by omega) rfl ?_
  refine g_aload_n X dL_law_766 5 rfl rfl ?_
  refine g_mcallVi_at X 49 49 (by rw [rW_M]; exact c_X5_thrown l D cy (fun j => ad (49 + j)) σ (nI F.1) a9) kl_L_85 ⟨rfl, rfl, Nat.le_of_ble_eq_true rfl, Nat.le_of_ble_eq_true rfl⟩ gSubLM (by omega) lL_M kv_X5 rfl rfl (Nat.le_of_ble_eq_true rfl) dL_law_767 ⟨by show k9 + 3 + 0 + 0 ≤ 788088; omega, by show n9 + 18 + 0 + 0 ≤ 6731839; omega⟩ (fun r3 μ1 hp4 => ?_)
  obtain ⟨rfl, rfl⟩ := hp4
  refine g_congr (ρ1 := rW σ (rM σ (nI F.1) a9)) (fun k hk => by rw [rW_b2 hk]) ?_
  have fin : GW p l e room_1 s m #[.ref b] below meth c Q 9 D A 67 ad (cL ad cy) (rW σ (rM σ (nI F.1) a9)) (k9 + 3 + 0 + 0) (n9 + 18 + 0 + 0) 794 [(6, .int r2), (5, .int (nI F.1)), (4, .int (nI (3 * t))), (0, .ref b), (1, .ref (ad 0)), (2, .ref (ad 49)), (3, .ref (ad 48))] [] := by
    refine g_goto X 1392 dL_law_794 (by decide) ?_
    refine g_ls (ls' := [(4, .int (nI (3 * t))), (0, .ref b), (1, .ref (ad 0)), (2, .ref (ad 49)), (3, .ref (ad 48))]) [2, 3, 4, 5, 6] rfl ?_
    exact g_widen (by omega) (by omega) (kk σ (nI F.1) a9 hKs)
  refine g_iload X dL_law_770 1 rfl ?_
  refine g_icmp_eq X 777 dL_law_772 (by decide) (fun _ => ?_) (fun h => absurd rfl h)
  refine g_iload X dL_law_777 1 rfl ?_
  refine g_if_ne X 794 dL_law_779 (by decide) (fun _ => fin) (fun h0 => ?_)
  have hz : F.1 = 0 := (nI_z (by omega)).mp h0
  refine g_aload_n X dL_law_782 6 rfl rfl ?_
  refine g_iconst X (v := nI 0) dL_law_783 (by decide) ?_
  refine g_lald X 48 (by omega) lL_out (pk_in 0 1 (by omega) rfl) dL_law_784 ?_
  refine g_iload X dL_law_785 0 rfl ?_
  refine g_i2l X dL_law_787 ?_
  refine g_lcmp X dL_law_788 ?_
  rw [show rW σ (rM σ (nI F.1) a9) 48 (nI 0).toNatClampNeg = r2 from (hs0 hz).trans (hp3 hz).symm]
  exact g_if_eq X 794 dL_law_789 (by decide) (fun _ => fin) (fun h => absurd lg_self h)
theorem xk_sou {ρ : gSt} {x : Int32} : (souF ρ x).1 < 3 := by
  unfold souF
  repeat' split
  all_goals exact Nat.lt_of_sub_pos (Nat.le_of_ble_eq_true rfl)
theorem k_sound {p : Program} {l : Launch} {e : Env} {s : State} {m : MethodId} {below : List Frame} {meth : Method} {c : Code} {Q : State → Prop} {D : va_G} {cy : Nat → ClassId} {A : Nat → Prop} {b L : Nat} {xs : Nat → Int32} {ad : Nat → Nat} (Y : lwX p l m c s b L xs D cy A) (k9 n9 t : Nat) (ρ : gSt) (th a : Int32) (hK : gKp ρ t) (ht : 3 * t + 3 ≤ L) (hroom : k9 + 52 ≤ 788088 ∧ n9 + 299 ≤ 6731839) (kk : ∀ (ρ' : gSt) (th' a' : Int32), gKp ρ' (t + 1) → GW p l e room_1 s m #[.ref b] below meth c Q 9 D A 67 ad (cL ad cy) (rW ρ' (rM ρ' th' a')) (k9 + 52) (n9 + 299) 1392 [(4, .int (nI (3 * t))), (0, .ref b), (1, .ref (ad 0)), (2, .ref (ad 49)), (3, .ref (ad 48))] []) : GW p l e room_1 s m #[.ref b] below meth c Q 9 D A 67 ad (cL ad cy) (rW ρ (rM ρ th a)) (k9) (n9) 797 [(4, .int (nI (3 * t))), (0, .ref b), (1, .ref (ad 0)), (2, .ref (ad 49)), (3, .ref (ad 48))] [] := by
  obtain ⟨X, hE, hC, hXs, hbl, hbA, hL, hl0⟩ := Y
  have hL31 : L < 2 ^ 31 := by omega
  obtain ⟨T, S, d, hI⟩ := id hK
  refine g_aload_n X dL_law_797 2 rfl rfl ?_
  refine g_aload_n X dL_law_798 1 rfl rfl ?_
  refine g_iload X dL_law_799 0 rfl ?_
  refine g_iconst X (v := nI 1) dL_law_801 (by decide) ?_
  refine g_iadd X dL_law_802 ?_
  rw [nI_add]
  refine g_sld X hXs hbl hbA (3 * t + 1) (by omega) hL31 dL_law_803 ?_
  refine g_aload_n X dL_law_804 4 rfl rfl ?_
  refine g_hcall X hE hC 0 ρ (fun j hj => by rw [rW_C hj]) (c_L_sound l hl0 D cy ad ρ t T S d hI (xs (3 * t + 1))) kl_L_121 ⟨rfl, rfl, Nat.le_of_ble_eq_true rfl, Nat.le_of_ble_eq_true rfl⟩ gSubL rfl rfl (Nat.le_of_ble_eq_true rfl) dL_law_805 ⟨by show k9 + 3 ≤ 788088; omega, by show n9 + 18 ≤ 6731839; omega⟩ (fun r ρ1 hp => ?_)
  obtain ⟨hr1, hr2, hr3⟩ := hp
  have hF3 : (souF ρ (xs (3 * t + 1))).1 < 3 := xk_sou
  have hKn : gKp (souF ρ (xs (3 * t + 1))).2.2 (t + 1) := kp_sou hK (by omega)
  obtain ⟨F, eF⟩ : ∃ F, F = souF ρ (xs (3 * t + 1)) := ⟨_, rfl⟩
  rw [← eF] at hr1 hr2 hr3 hF3 hKn
  obtain ⟨σ, eσ⟩ : ∃ σ : gSt, σ = fun k => if k = 48 then ρ1 48 else F.2.2 k := ⟨_, rfl⟩
  have h48 : ∀ k, k < 48 → F.2.2 k = σ k := fun k hk => by rw [eσ]; exact (if_neg (by omega)).symm
  have h49 : ∀ k, k < 49 → ρ1 k = σ k := fun k hk => by
    by_cases h : k = 48
    · subst h
      rw [eσ]
      rfl
    · rw [← h48 k (by omega)]
      exact hr2 k (by omega)
  have hKs : gKp σ (t + 1) := kp_48 h48 hKn
  have hs0 : F.1 = 0 → σ 48 0 = F.2.1 := fun h => by rw [← h49 48 (by omega)]; exact hr3 h
  refine g_congr (ρ1 := rW σ (rM ρ th a)) (fun k hk => by rw [rW_b1 h49]) ?_
  rw [hr1]
  refine g_istore X [(5, .int (nI F.1)), (4, .int (nI (3 * t))), (0, .ref b), (1, .ref (ad 0)), (2, .ref (ad 49)), (3, .ref (ad 48))] dL_law_808 (by omega) rfl ?_
  refine g_aload_n X dL_law_810 4 rfl rfl ?_
  refine g_aload_n X dL_law_811 2 rfl rfl ?_
  refine g_iload X dL_law_812 1 rfl ?_
  refine g_iconst X (v := nI 1) dL_law_814 (by decide) ?_
  refine g_iadd X dL_law_815 ?_
  rw [nI_add]
  refine g_sld X hXs hbl hbA (3 * t + 1) (by omega) hL31 dL_law_816 ?_
  refine g_mcallVi_at X 49 49 (by rw [rW_M]; exact c_X5_sound l D cy (fun j => ad (49 + j)) ρ th a t T S d hI (xs (3 * t + 1))) kl_L_123 ⟨rfl, rfl, Nat.le_of_ble_eq_true rfl, Nat.le_of_ble_eq_true rfl⟩ gSubLM (by omega) lL_M kv_X5 rfl rfl (Nat.le_of_ble_eq_true rfl) dL_law_817 ⟨by show k9 + 3 + 0 ≤ 788088; omega, by show n9 + 18 + 0 ≤ 6731839; omega⟩ (fun r2 μ1 hp2 => ?_)
  obtain ⟨a9, rfl, hp3⟩ := hp2
  rw [← eF] at hp3
  refine g_congr (ρ1 := rW σ (rM σ (nI F.1) a9)) (fun k hk => by rw [rW_b2 hk, ← eF, rM_48 h48]) ?_
  refine g_istore X [(6, .int r2), (5, .int (nI F.1)), (4, .int (nI (3 * t))), (0, .ref b), (1, .ref (ad 0)), (2, .ref (ad 49)), (3, .ref (ad 48))] dL_law_820 (by omega) rfl ?_
  refine g_aload_n X dL_law_822 5 rfl rfl ?_
  refine g_mcallVi_at X 49 49 (by rw [rW_M]; exact c_X5_thrown l D cy (fun j => ad (49 + j)) σ (nI F.1) a9) kl_L_85 ⟨rfl, rfl, Nat.le_of_ble_eq_true rfl, Nat.le_of_ble_eq_true rfl⟩ gSubLM (by omega) lL_M kv_X5 rfl rfl (Nat.le_of_ble_eq_true rfl) dL_law_823 ⟨by show k9 + 3 + 0 + 0 ≤ 788088; omega, by show n9 + 18 + 0 + 0 ≤ 6731839; omega⟩ (fun r3 μ1 hp4 => ?_)
  obtain ⟨rfl, rfl⟩ := hp4
  refine g_congr (ρ1 := rW σ (rM σ (nI F.1) a9)) (fun k hk => by rw [rW_b2 hk]) ?_
  have fin : GW p l e room_1 s m #[.ref b] below meth c Q 9 D A 67 ad (cL ad cy) (rW σ (rM σ (nI F.1) a9)) (k9 + 3 + 0 + 0) (n9 + 18 + 0 + 0) 850 [(6, .int r2), (5, .int (nI F.1)), (4, .int (nI (3 * t))), (0, .ref b), (1, .ref (ad 0)), (2, .ref (ad 49)), (3, .ref (ad 48))] [] := by
    refine g_goto X 1392 dL_law_850 (by decide) ?_
    refine g_ls (ls' := [(4, .int (nI (3 * t))), (0, .ref b), (1, .ref (ad 0)), (2, .ref (ad 49)), (3, .ref (ad 48))]) [2, 3, 4, 5, 6] rfl ?_
    exact g_widen (by omega) (by omega) (kk σ (nI F.1) a9 hKs)
  refine g_iload X dL_law_826 1 rfl ?_
  refine g_icmp_eq X 833 dL_law_828 (by decide) (fun _ => ?_) (fun h => absurd rfl h)
  refine g_iload X dL_law_833 1 rfl ?_
  refine g_if_ne X 850 dL_law_835 (by decide) (fun _ => fin) (fun h0 => ?_)
  have hz : F.1 = 0 := (nI_z (by omega)).mp h0
  refine g_aload_n X dL_law_838 6 rfl rfl ?_
  refine g_iconst X (v := nI 0) dL_law_839 (by decide) ?_
  refine g_lald X 48 (by omega) lL_out (pk_in 0 1 (by omega) rfl) dL_law_840 ?_
  refine g_iload X dL_law_841 0 rfl ?_
  refine g_i2l X dL_law_843 ?_
  refine g_lcmp X dL_law_844 ?_
  rw [show rW σ (rM σ (nI F.1) a9) 48 (nI 0).toNatClampNeg = r2 from (hs0 hz).trans (hp3 hz).symm]
  exact g_if_eq X 850 dL_law_845 (by decide) (fun _ => fin) (fun h => absurd lg_self h)
theorem xk_tol {ρ : gSt} {x y : Int32} : (tolF ρ x y).1 < 3 := by
  unfold tolF
  repeat' split
  all_goals exact Nat.lt_of_sub_pos (Nat.le_of_ble_eq_true rfl)
theorem k_told {p : Program} {l : Launch} {e : Env} {s : State} {m : MethodId} {below : List Frame} {meth : Method} {c : Code} {Q : State → Prop} {D : va_G} {cy : Nat → ClassId} {A : Nat → Prop} {b L : Nat} {xs : Nat → Int32} {ad : Nat → Nat} (Y : lwX p l m c s b L xs D cy A) (k9 n9 t : Nat) (ρ : gSt) (th a : Int32) (hK : gKp ρ t) (ht : 3 * t + 3 ≤ L) (hroom : k9 + 52 ≤ 788088 ∧ n9 + 299 ≤ 6731839) (kk : ∀ (ρ' : gSt) (th' a' : Int32), gKp ρ' (t + 1) → GW p l e room_1 s m #[.ref b] below meth c Q 9 D A 67 ad (cL ad cy) (rW ρ' (rM ρ' th' a')) (k9 + 52) (n9 + 299) 1392 [(4, .int (nI (3 * t))), (0, .ref b), (1, .ref (ad 0)), (2, .ref (ad 49)), (3, .ref (ad 48))] []) : GW p l e room_1 s m #[.ref b] below meth c Q 9 D A 67 ad (cL ad cy) (rW ρ (rM ρ th a)) (k9) (n9) 853 [(4, .int (nI (3 * t))), (0, .ref b), (1, .ref (ad 0)), (2, .ref (ad 49)), (3, .ref (ad 48))] [] := by
  obtain ⟨X, hE, hC, hXs, hbl, hbA, hL, hl0⟩ := Y
  have hL31 : L < 2 ^ 31 := by omega
  obtain ⟨T, S, d, hI⟩ := id hK
  refine g_aload_n X dL_law_853 2 rfl rfl ?_
  refine g_aload_n X dL_law_854 1 rfl rfl ?_
  refine g_iload X dL_law_855 0 rfl ?_
  refine g_iconst X (v := nI 1) dL_law_857 (by decide) ?_
  refine g_iadd X dL_law_858 ?_
  rw [nI_add]
  refine g_sld X hXs hbl hbA (3 * t + 1) (by omega) hL31 dL_law_859 ?_
  refine g_aload_n X dL_law_860 1 rfl rfl ?_
  refine g_iload X dL_law_861 0 rfl ?_
  refine g_iconst X (v := nI 2) dL_law_863 (by decide) ?_
  refine g_iadd X dL_law_864 ?_
  rw [nI_add]
  refine g_sld X hXs hbl hbA (3 * t + 2) (by omega) hL31 dL_law_865 ?_
  refine g_aload_n X dL_law_866 4 rfl rfl ?_
  refine g_hcall X hE hC 0 ρ (fun j hj => by rw [rW_C hj]) (c_L_told l hl0 D cy ad ρ t T S d hI (xs (3 * t + 1)) (xs (3 * t + 2))) kl_L_124 ⟨rfl, rfl, Nat.le_of_ble_eq_true rfl, Nat.le_of_ble_eq_true rfl⟩ gSubL rfl rfl (Nat.le_of_ble_eq_true rfl) dL_law_867 ⟨by show k9 + 3 ≤ 788088; omega, by show n9 + 18 ≤ 6731839; omega⟩ (fun r ρ1 hp => ?_)
  obtain ⟨hr1, hr2, hr3⟩ := hp
  have hF3 : (tolF ρ (xs (3 * t + 1)) (xs (3 * t + 2))).1 < 3 := xk_tol
  have hKn : gKp (tolF ρ (xs (3 * t + 1)) (xs (3 * t + 2))).2.2 (t + 1) := kp_tol hK (by omega)
  obtain ⟨F, eF⟩ : ∃ F, F = tolF ρ (xs (3 * t + 1)) (xs (3 * t + 2)) := ⟨_, rfl⟩
  rw [← eF] at hr1 hr2 hr3 hF3 hKn
  obtain ⟨σ, eσ⟩ : ∃ σ : gSt, σ = fun k => if k = 48 then ρ1 48 else F.2.2 k := ⟨_, rfl⟩
  have h48 : ∀ k, k < 48 → F.2.2 k = σ k := fun k hk => by rw [eσ]; exact (if_neg (by omega)).symm
  have h49 : ∀ k, k < 49 → ρ1 k = σ k := fun k hk => by
    by_cases h : k = 48
    · subst h
      rw [eσ]
      rfl
    · rw [← h48 k (by omega)]
      exact hr2 k (by omega)
  have hKs : gKp σ (t + 1) := kp_48 h48 hKn
  have hs0 : F.1 = 0 → σ 48 0 = F.2.1 := fun h => by rw [← h49 48 (by omega)]; exact hr3 h
  refine g_congr (ρ1 := rW σ (rM ρ th a)) (fun k hk => by rw [rW_b1 h49]) ?_
  rw [hr1]
  refine g_istore X [(5, .int (nI F.1)), (4, .int (nI (3 * t))), (0, .ref b), (1, .ref (ad 0)), (2, .ref (ad 49)), (3, .ref (ad 48))] dL_law_870 (by omega) rfl ?_
  refine g_aload_n X dL_law_872 4 rfl rfl ?_
  refine g_aload_n X dL_law_873 2 rfl rfl ?_
  refine g_iload X dL_law_874 1 rfl ?_
  refine g_iconst X (v := nI 1) dL_law_876 (by decide) ?_
  refine g_iadd X dL_law_877 ?_
  rw [nI_add]
  refine g_sld X hXs hbl hbA (3 * t + 1) (by omega) hL31 dL_law_878 ?_
  refine g_aload_n X dL_law_879 2 rfl rfl ?_
  refine g_iload X dL_law_880 1 rfl ?_
  refine g_iconst X (v := nI 2) dL_law_882 (by decide) ?_
  refine g_iadd X dL_law_883 ?_
  rw [nI_add]
  refine g_sld X hXs hbl hbA (3 * t + 2) (by omega) hL31 dL_law_884 ?_
  refine g_mcallVi_at X 49 49 (by rw [rW_M]; exact c_X5_told l D cy (fun j => ad (49 + j)) ρ th a t T S d hI (xs (3 * t + 1)) (xs (3 * t + 2))) kl_L_126 ⟨rfl, rfl, Nat.le_of_ble_eq_true rfl, Nat.le_of_ble_eq_true rfl⟩ gSubLM (by omega) lL_M kv_X5 rfl rfl (Nat.le_of_ble_eq_true rfl) dL_law_885 ⟨by show k9 + 3 + 1 ≤ 788088; omega, by show n9 + 18 + 5 ≤ 6731839; omega⟩ (fun r2 μ1 hp2 => ?_)
  obtain ⟨a9, rfl, hp3⟩ := hp2
  rw [← eF] at hp3
  refine g_congr (ρ1 := rW σ (rM σ (nI F.1) a9)) (fun k hk => by rw [rW_b2 hk, ← eF, rM_48 h48]) ?_
  refine g_istore X [(6, .int r2), (5, .int (nI F.1)), (4, .int (nI (3 * t))), (0, .ref b), (1, .ref (ad 0)), (2, .ref (ad 49)), (3, .ref (ad 48))] dL_law_888 (by omega) rfl ?_
  refine g_aload_n X dL_law_890 5 rfl rfl ?_
  refine g_mcallVi_at X 49 49 (by rw [rW_M]; exact c_X5_thrown l D cy (fun j => ad (49 + j)) σ (nI F.1) a9) kl_L_85 ⟨rfl, rfl, Nat.le_of_ble_eq_true rfl, Nat.le_of_ble_eq_true rfl⟩ gSubLM (by omega) lL_M kv_X5 rfl rfl (Nat.le_of_ble_eq_true rfl) dL_law_891 ⟨by show k9 + 3 + 1 + 0 ≤ 788088; omega, by show n9 + 18 + 5 + 0 ≤ 6731839; omega⟩ (fun r3 μ1 hp4 => ?_)
  obtain ⟨rfl, rfl⟩ := hp4
  refine g_congr (ρ1 := rW σ (rM σ (nI F.1) a9)) (fun k hk => by rw [rW_b2 hk]) ?_
  have fin : GW p l e room_1 s m #[.ref b] below meth c Q 9 D A 67 ad (cL ad cy) (rW σ (rM σ (nI F.1) a9)) (k9 + 3 + 1 + 0) (n9 + 18 + 5 + 0) 918 [(6, .int r2), (5, .int (nI F.1)), (4, .int (nI (3 * t))), (0, .ref b), (1, .ref (ad 0)), (2, .ref (ad 49)), (3, .ref (ad 48))] [] := by
    refine g_goto X 1392 dL_law_918 (by decide) ?_
    refine g_ls (ls' := [(4, .int (nI (3 * t))), (0, .ref b), (1, .ref (ad 0)), (2, .ref (ad 49)), (3, .ref (ad 48))]) [2, 3, 4, 5, 6] rfl ?_
    exact g_widen (by omega) (by omega) (kk σ (nI F.1) a9 hKs)
  refine g_iload X dL_law_894 1 rfl ?_
  refine g_icmp_eq X 901 dL_law_896 (by decide) (fun _ => ?_) (fun h => absurd rfl h)
  refine g_iload X dL_law_901 1 rfl ?_
  refine g_if_ne X 918 dL_law_903 (by decide) (fun _ => fin) (fun h0 => ?_)
  have hz : F.1 = 0 := (nI_z (by omega)).mp h0
  refine g_aload_n X dL_law_906 6 rfl rfl ?_
  refine g_iconst X (v := nI 0) dL_law_907 (by decide) ?_
  refine g_lald X 48 (by omega) lL_out (pk_in 0 1 (by omega) rfl) dL_law_908 ?_
  refine g_iload X dL_law_909 0 rfl ?_
  refine g_i2l X dL_law_911 ?_
  refine g_lcmp X dL_law_912 ?_
  rw [show rW σ (rM σ (nI F.1) a9) 48 (nI 0).toNatClampNeg = r2 from (hs0 hz).trans (hp3 hz).symm]
  exact g_if_eq X 918 dL_law_913 (by decide) (fun _ => fin) (fun h => absurd lg_self h)
theorem xk_cou {ρ : gSt} {x : Int32} : (couF ρ x).1 < 3 := by
  unfold couF
  repeat' split
  all_goals exact Nat.lt_of_sub_pos (Nat.le_of_ble_eq_true rfl)
theorem k_count {p : Program} {l : Launch} {e : Env} {s : State} {m : MethodId} {below : List Frame} {meth : Method} {c : Code} {Q : State → Prop} {D : va_G} {cy : Nat → ClassId} {A : Nat → Prop} {b L : Nat} {xs : Nat → Int32} {ad : Nat → Nat} (Y : lwX p l m c s b L xs D cy A) (k9 n9 t : Nat) (ρ : gSt) (th a : Int32) (hK : gKp ρ t) (ht : 3 * t + 3 ≤ L) (hroom : k9 + 52 ≤ 788088 ∧ n9 + 299 ≤ 6731839) (kk : ∀ (ρ' : gSt) (th' a' : Int32), gKp ρ' (t + 1) → GW p l e room_1 s m #[.ref b] below meth c Q 9 D A 67 ad (cL ad cy) (rW ρ' (rM ρ' th' a')) (k9 + 52) (n9 + 299) 1392 [(4, .int (nI (3 * t))), (0, .ref b), (1, .ref (ad 0)), (2, .ref (ad 49)), (3, .ref (ad 48))] []) : GW p l e room_1 s m #[.ref b] below meth c Q 9 D A 67 ad (cL ad cy) (rW ρ (rM ρ th a)) (k9) (n9) 921 [(4, .int (nI (3 * t))), (0, .ref b), (1, .ref (ad 0)), (2, .ref (ad 49)), (3, .ref (ad 48))] [] := by
  obtain ⟨X, hE, hC, hXs, hbl, hbA, hL, hl0⟩ := Y
  have hL31 : L < 2 ^ 31 := by omega
  obtain ⟨T, S, d, hI⟩ := id hK
  refine g_aload_n X dL_law_921 2 rfl rfl ?_
  refine g_aload_n X dL_law_922 1 rfl rfl ?_
  refine g_iload X dL_law_923 0 rfl ?_
  refine g_iconst X (v := nI 1) dL_law_925 (by decide) ?_
  refine g_iadd X dL_law_926 ?_
  rw [nI_add]
  refine g_sld X hXs hbl hbA (3 * t + 1) (by omega) hL31 dL_law_927 ?_
  refine g_aload_n X dL_law_928 4 rfl rfl ?_
  refine g_hcall X hE hC 0 ρ (fun j hj => by rw [rW_C hj]) (c_L_count l hl0 D cy ad ρ t T S d hI (xs (3 * t + 1))) kl_L_127 ⟨rfl, rfl, Nat.le_of_ble_eq_true rfl, Nat.le_of_ble_eq_true rfl⟩ gSubL rfl rfl (Nat.le_of_ble_eq_true rfl) dL_law_929 ⟨by show k9 + 3 ≤ 788088; omega, by show n9 + 18 ≤ 6731839; omega⟩ (fun r ρ1 hp => ?_)
  obtain ⟨hr1, hr2, hr3⟩ := hp
  have hF3 : (couF ρ (xs (3 * t + 1))).1 < 3 := xk_cou
  have hKn : gKp (couF ρ (xs (3 * t + 1))).2.2 (t + 1) := kp_cou hK (by omega)
  obtain ⟨F, eF⟩ : ∃ F, F = couF ρ (xs (3 * t + 1)) := ⟨_, rfl⟩
  rw [← eF] at hr1 hr2 hr3 hF3 hKn
  obtain ⟨σ, eσ⟩ : ∃ σ : gSt, σ = fun k => if k = 48 then ρ1 48 else F.2.2 k := ⟨_, rfl⟩
  have h48 : ∀ k, k < 48 → F.2.2 k = σ k := fun k hk => by rw [eσ]; exact (if_neg (by omega)).symm
  have h49 : ∀ k, k < 49 → ρ1 k = σ k := fun k hk => by
    by_cases h : k = 48
    · subst h
      rw [eσ]
      rfl
    · rw [← h48 k (by omega)]
      exact hr2 k (by omega)
  have hKs : gKp σ (t + 1) := kp_48 h48 hKn
  have hs0 : F.1 = 0 → σ 48 0 = F.2.1 := fun h => by rw [← h49 48 (by omega)]; exact hr3 h
  refine g_congr (ρ1 := rW σ (rM ρ th a)) (fun k hk => by rw [rW_b1 h49]) ?_
  rw [hr1]
  refine g_istore X [(5, .int (nI F.1)), (4, .int (nI (3 * t))), (0, .ref b), (1, .ref (ad 0)), (2, .ref (ad 49)), (3, .ref (ad 48))] dL_law_932 (by omega) rfl ?_
  refine g_aload_n X dL_law_934 4 rfl rfl ?_
  refine g_aload_n X dL_law_935 2 rfl rfl ?_
  refine g_iload X dL_law_936 1 rfl ?_
  refine g_iconst X (v := nI 1) dL_law_938 (by decide) ?_
  refine g_iadd X dL_law_939 ?_
  rw [nI_add]
  refine g_sld X hXs hbl hbA (3 * t + 1) (by omega) hL31 dL_law_940 ?_
  refine g_mcallVi_at X 49 49 (by rw [rW_M]; exact c_X5_count l D cy (fun j => ad (49 + j)) ρ th a t T S d hI (xs (3 * t + 1))) kl_L_129 ⟨rfl, rfl, Nat.le_of_ble_eq_true rfl, Nat.le_of_ble_eq_true rfl⟩ gSubLM (by omega) lL_M kv_X5 rfl rfl (Nat.le_of_ble_eq_true rfl) dL_law_941 ⟨by show k9 + 3 + 1 ≤ 788088; omega, by show n9 + 18 + 9 ≤ 6731839; omega⟩ (fun r2 μ1 hp2 => ?_)
  obtain ⟨a9, rfl, hp3⟩ := hp2
  rw [← eF] at hp3
  refine g_congr (ρ1 := rW σ (rM σ (nI F.1) a9)) (fun k hk => by rw [rW_b2 hk, ← eF, rM_48 h48]) ?_
  refine g_istore X [(6, .int r2), (5, .int (nI F.1)), (4, .int (nI (3 * t))), (0, .ref b), (1, .ref (ad 0)), (2, .ref (ad 49)), (3, .ref (ad 48))] dL_law_944 (by omega) rfl ?_
  refine g_aload_n X dL_law_946 5 rfl rfl ?_
  refine g_mcallVi_at X 49 49 (by rw [rW_M]; exact c_X5_thrown l D cy (fun j => ad (49 + j)) σ (nI F.1) a9) kl_L_85 ⟨rfl, rfl, Nat.le_of_ble_eq_true rfl, Nat.le_of_ble_eq_true rfl⟩ gSubLM (by omega) lL_M kv_X5 rfl rfl (Nat.le_of_ble_eq_true rfl) dL_law_947 ⟨by show k9 + 3 + 1 + 0 ≤ 788088; omega, by show n9 + 18 + 9 + 0 ≤ 6731839; omega⟩ (fun r3 μ1 hp4 => ?_)
  obtain ⟨rfl, rfl⟩ := hp4
  refine g_congr (ρ1 := rW σ (rM σ (nI F.1) a9)) (fun k hk => by rw [rW_b2 hk]) ?_
  have fin : GW p l e room_1 s m #[.ref b] below meth c Q 9 D A 67 ad (cL ad cy) (rW σ (rM σ (nI F.1) a9)) (k9 + 3 + 1 + 0) (n9 + 18 + 9 + 0) 974 [(6, .int r2), (5, .int (nI F.1)), (4, .int (nI (3 * t))), (0, .ref b), (1, .ref (ad 0)), (2, .ref (ad 49)), (3, .ref (ad 48))] [] := by
    refine g_goto X 1392 dL_law_974 (by decide) ?_
    refine g_ls (ls' := [(4, .int (nI (3 * t))), (0, .ref b), (1, .ref (ad 0)), (2, .ref (ad 49)), (3, .ref (ad 48))]) [2, 3, 4, 5, 6] rfl ?_
    exact g_widen (by omega) (by omega) (kk σ (nI F.1) a9 hKs)
  refine g_iload X dL_law_950 1 rfl ?_
  refine g_icmp_eq X 957 dL_law_952 (by decide) (fun _ => ?_) (fun h => absurd rfl h)
  refine g_iload X dL_law_957 1 rfl ?_
  refine g_if_ne X 974 dL_law_959 (by decide) (fun _ => fin) (fun h0 => ?_)
  have hz : F.1 = 0 := (nI_z (by omega)).mp h0
  refine g_aload_n X dL_law_962 6 rfl rfl ?_
  refine g_iconst X (v := nI 0) dL_law_963 (by decide) ?_
  refine g_lald X 48 (by omega) lL_out (pk_in 0 1 (by omega) rfl) dL_law_964 ?_
  refine g_iload X dL_law_965 0 rfl ?_
  refine g_i2l X dL_law_967 ?_
  refine g_lcmp X dL_law_968 ?_
  rw [show rW σ (rM σ (nI F.1) a9) 48 (nI 0).toNatClampNeg = r2 from (hs0 hz).trans (hp3 hz).symm]
  exact g_if_eq X 974 dL_law_969 (by decide) (fun _ => fin) (fun h => absurd lg_self h)
theorem xk_res {ρ : gSt} {x : Int32} : (resF ρ x).1 < 3 := by
  unfold resF
  repeat' split
  all_goals exact Nat.lt_of_sub_pos (Nat.le_of_ble_eq_true rfl)
theorem k_rest {p : Program} {l : Launch} {e : Env} {s : State} {m : MethodId} {below : List Frame} {meth : Method} {c : Code} {Q : State → Prop} {D : va_G} {cy : Nat → ClassId} {A : Nat → Prop} {b L : Nat} {xs : Nat → Int32} {ad : Nat → Nat} (Y : lwX p l m c s b L xs D cy A) (k9 n9 t : Nat) (ρ : gSt) (th a : Int32) (hK : gKp ρ t) (ht : 3 * t + 3 ≤ L) (hroom : k9 + 52 ≤ 788088 ∧ n9 + 299 ≤ 6731839) (kk : ∀ (ρ' : gSt) (th' a' : Int32), gKp ρ' (t + 1) → GW p l e room_1 s m #[.ref b] below meth c Q 9 D A 67 ad (cL ad cy) (rW ρ' (rM ρ' th' a')) (k9 + 52) (n9 + 299) 1392 [(4, .int (nI (3 * t))), (0, .ref b), (1, .ref (ad 0)), (2, .ref (ad 49)), (3, .ref (ad 48))] []) : GW p l e room_1 s m #[.ref b] below meth c Q 9 D A 67 ad (cL ad cy) (rW ρ (rM ρ th a)) (k9) (n9) 977 [(4, .int (nI (3 * t))), (0, .ref b), (1, .ref (ad 0)), (2, .ref (ad 49)), (3, .ref (ad 48))] [] := by
  obtain ⟨X, hE, hC, hXs, hbl, hbA, hL, hl0⟩ := Y
  have hL31 : L < 2 ^ 31 := by omega
  obtain ⟨T, S, d, hI⟩ := id hK
  refine g_aload_n X dL_law_977 2 rfl rfl ?_
  refine g_aload_n X dL_law_978 1 rfl rfl ?_
  refine g_iload X dL_law_979 0 rfl ?_
  refine g_iconst X (v := nI 1) dL_law_981 (by decide) ?_
  refine g_iadd X dL_law_982 ?_
  rw [nI_add]
  refine g_sld X hXs hbl hbA (3 * t + 1) (by omega) hL31 dL_law_983 ?_
  refine g_aload_n X dL_law_984 4 rfl rfl ?_
  refine g_hcall X hE hC 0 ρ (fun j hj => by rw [rW_C hj]) (c_L_rest l hl0 D cy ad ρ t T S d hI (xs (3 * t + 1))) kl_L_130 ⟨rfl, rfl, Nat.le_of_ble_eq_true rfl, Nat.le_of_ble_eq_true rfl⟩ gSubL rfl rfl (Nat.le_of_ble_eq_true rfl) dL_law_985 ⟨by show k9 + 3 ≤ 788088; omega, by show n9 + 18 ≤ 6731839; omega⟩ (fun r ρ1 hp => ?_)
  obtain ⟨hr1, hr2, hr3⟩ := hp
  have hF3 : (resF ρ (xs (3 * t + 1))).1 < 3 := xk_res
  have hKn : gKp (resF ρ (xs (3 * t + 1))).2.2 (t + 1) := kp_res hK (by omega)
  obtain ⟨F, eF⟩ : ∃ F, F = resF ρ (xs (3 * t + 1)) := ⟨_, rfl⟩
  rw [← eF] at hr1 hr2 hr3 hF3 hKn
  obtain ⟨σ, eσ⟩ : ∃ σ : gSt, σ = fun k => if k = 48 then ρ1 48 else F.2.2 k := ⟨_, rfl⟩
  have h48 : ∀ k, k < 48 → F.2.2 k = σ k := fun k hk => by rw [eσ]; exact (if_neg (by omega)).symm
  have h49 : ∀ k, k < 49 → ρ1 k = σ k := fun k hk => by
    by_cases h : k = 48
    · subst h
      rw [eσ]
      rfl
    · rw [← h48 k (by omega)]
      exact hr2 k (by omega)
  have hKs : gKp σ (t + 1) := kp_48 h48 hKn
  have hs0 : F.1 = 0 → σ 48 0 = F.2.1 := fun h => by rw [← h49 48 (by omega)]; exact hr3 h
  refine g_congr (ρ1 := rW σ (rM ρ th a)) (fun k hk => by rw [rW_b1 h49]) ?_
  rw [hr1]
  refine g_istore X [(5, .int (nI F.1)), (4, .int (nI (3 * t))), (0, .ref b), (1, .ref (ad 0)), (2, .ref (ad 49)), (3, .ref (ad 48))] dL_law_988 (by omega) rfl ?_
  refine g_aload_n X dL_law_990 4 rfl rfl ?_
  refine g_aload_n X dL_law_991 2 rfl rfl ?_
  refine g_iload X dL_law_992 1 rfl ?_
  refine g_iconst X (v := nI 1) dL_law_994 (by decide) ?_
  refine g_iadd X dL_law_995 ?_
  rw [nI_add]
  refine g_sld X hXs hbl hbA (3 * t + 1) (by omega) hL31 dL_law_996 ?_
  refine g_mcallVi_at X 49 49 (by rw [rW_M]; exact c_X5_rest l D cy (fun j => ad (49 + j)) ρ th a t T S d hI (xs (3 * t + 1))) kl_L_132 ⟨rfl, rfl, Nat.le_of_ble_eq_true rfl, Nat.le_of_ble_eq_true rfl⟩ gSubLM (by omega) lL_M kv_X5 rfl rfl (Nat.le_of_ble_eq_true rfl) dL_law_997 ⟨by show k9 + 3 + 0 ≤ 788088; omega, by show n9 + 18 + 0 ≤ 6731839; omega⟩ (fun r2 μ1 hp2 => ?_)
  obtain ⟨a9, rfl, hp3⟩ := hp2
  rw [← eF] at hp3
  refine g_congr (ρ1 := rW σ (rM σ (nI F.1) a9)) (fun k hk => by rw [rW_b2 hk, ← eF, rM_48 h48]) ?_
  refine g_istore X [(6, .int r2), (5, .int (nI F.1)), (4, .int (nI (3 * t))), (0, .ref b), (1, .ref (ad 0)), (2, .ref (ad 49)), (3, .ref (ad 48))] dL_law_1000 (by omega) rfl ?_
  refine g_aload_n X dL_law_1002 5 rfl rfl ?_
  refine g_mcallVi_at X 49 49 (by rw [rW_M]; exact c_X5_thrown l D cy (fun j => ad (49 + j)) σ (nI F.1) a9) kl_L_85 ⟨rfl, rfl, Nat.le_of_ble_eq_true rfl, Nat.le_of_ble_eq_true rfl⟩ gSubLM (by omega) lL_M kv_X5 rfl rfl (Nat.le_of_ble_eq_true rfl) dL_law_1003 ⟨by show k9 + 3 + 0 + 0 ≤ 788088; omega, by show n9 + 18 + 0 + 0 ≤ 6731839; omega⟩ (fun r3 μ1 hp4 => ?_)
  obtain ⟨rfl, rfl⟩ := hp4
  refine g_congr (ρ1 := rW σ (rM σ (nI F.1) a9)) (fun k hk => by rw [rW_b2 hk]) ?_
  have fin : GW p l e room_1 s m #[.ref b] below meth c Q 9 D A 67 ad (cL ad cy) (rW σ (rM σ (nI F.1) a9)) (k9 + 3 + 0 + 0) (n9 + 18 + 0 + 0) 1030 [(6, .int r2), (5, .int (nI F.1)), (4, .int (nI (3 * t))), (0, .ref b), (1, .ref (ad 0)), (2, .ref (ad 49)), (3, .ref (ad 48))] [] := by
    refine g_goto X 1392 dL_law_1030 (by decide) ?_
    refine g_ls (ls' := [(4, .int (nI (3 * t))), (0, .ref b), (1, .ref (ad 0)), (2, .ref (ad 49)), (3, .ref (ad 48))]) [2, 3, 4, 5, 6] rfl ?_
    exact g_widen (by omega) (by omega) (kk σ (nI F.1) a9 hKs)
  refine g_iload X dL_law_1006 1 rfl ?_
  refine g_icmp_eq X 1013 dL_law_1008 (by decide) (fun _ => ?_) (fun h => absurd rfl h)
  refine g_iload X dL_law_1013 1 rfl ?_
  refine g_if_ne X 1030 dL_law_1015 (by decide) (fun _ => fin) (fun h0 => ?_)
  have hz : F.1 = 0 := (nI_z (by omega)).mp h0
  refine g_aload_n X dL_law_1018 6 rfl rfl ?_
  refine g_iconst X (v := nI 0) dL_law_1019 (by decide) ?_
  refine g_lald X 48 (by omega) lL_out (pk_in 0 1 (by omega) rfl) dL_law_1020 ?_
  refine g_iload X dL_law_1021 0 rfl ?_
  refine g_i2l X dL_law_1023 ?_
  refine g_lcmp X dL_law_1024 ?_
  rw [show rW σ (rM σ (nI F.1) a9) 48 (nI 0).toNatClampNeg = r2 from (hs0 hz).trans (hp3 hz).symm]
  exact g_if_eq X 1030 dL_law_1025 (by decide) (fun _ => fin) (fun h => absurd lg_self h)
theorem xk_pay {ρ : gSt} {x y : Int32} : (payF ρ x y).1 < 3 := by
  unfold payF
  repeat' split
  all_goals exact Nat.lt_of_sub_pos (Nat.le_of_ble_eq_true rfl)
theorem k_pays {p : Program} {l : Launch} {e : Env} {s : State} {m : MethodId} {below : List Frame} {meth : Method} {c : Code} {Q : State → Prop} {D : va_G} {cy : Nat → ClassId} {A : Nat → Prop} {b L : Nat} {xs : Nat → Int32} {ad : Nat → Nat} (Y : lwX p l m c s b L xs D cy A) (k9 n9 t : Nat) (ρ : gSt) (th a : Int32) (hK : gKp ρ t) (ht : 3 * t + 3 ≤ L) (hroom : k9 + 52 ≤ 788088 ∧ n9 + 299 ≤ 6731839) (kk : ∀ (ρ' : gSt) (th' a' : Int32), gKp ρ' (t + 1) → GW p l e room_1 s m #[.ref b] below meth c Q 9 D A 67 ad (cL ad cy) (rW ρ' (rM ρ' th' a')) (k9 + 52) (n9 + 299) 1392 [(4, .int (nI (3 * t))), (0, .ref b), (1, .ref (ad 0)), (2, .ref (ad 49)), (3, .ref (ad 48))] []) : GW p l e room_1 s m #[.ref b] below meth c Q 9 D A 67 ad (cL ad cy) (rW ρ (rM ρ th a)) (k9) (n9) 1033 [(4, .int (nI (3 * t))), (0, .ref b), (1, .ref (ad 0)), (2, .ref (ad 49)), (3, .ref (ad 48))] [] := by
  obtain ⟨X, hE, hC, hXs, hbl, hbA, hL, hl0⟩ := Y
  have hL31 : L < 2 ^ 31 := by omega
  obtain ⟨T, S, d, hI⟩ := id hK
  refine g_aload_n X dL_law_1033 2 rfl rfl ?_
  refine g_aload_n X dL_law_1034 1 rfl rfl ?_
  refine g_iload X dL_law_1035 0 rfl ?_
  refine g_iconst X (v := nI 1) dL_law_1037 (by decide) ?_
  refine g_iadd X dL_law_1038 ?_
  rw [nI_add]
  refine g_sld X hXs hbl hbA (3 * t + 1) (by omega) hL31 dL_law_1039 ?_
  refine g_aload_n X dL_law_1040 1 rfl rfl ?_
  refine g_iload X dL_law_1041 0 rfl ?_
  refine g_iconst X (v := nI 2) dL_law_1043 (by decide) ?_
  refine g_iadd X dL_law_1044 ?_
  rw [nI_add]
  refine g_sld X hXs hbl hbA (3 * t + 2) (by omega) hL31 dL_law_1045 ?_
  refine g_aload_n X dL_law_1046 4 rfl rfl ?_
  refine g_hcall X hE hC 0 ρ (fun j hj => by rw [rW_C hj]) (c_L_pays l hl0 D cy ad ρ t T S d hI (xs (3 * t + 1)) (xs (3 * t + 2))) kl_L_133 ⟨rfl, rfl, Nat.le_of_ble_eq_true rfl, Nat.le_of_ble_eq_true rfl⟩ gSubL rfl rfl (Nat.le_of_ble_eq_true rfl) dL_law_1047 ⟨by show k9 + 3 ≤ 788088; omega, by show n9 + 18 ≤ 6731839; omega⟩ (fun r ρ1 hp => ?_)
  obtain ⟨hr1, hr2, hr3⟩ := hp
  have hF3 : (payF ρ (xs (3 * t + 1)) (xs (3 * t + 2))).1 < 3 := xk_pay
  have hKn : gKp (payF ρ (xs (3 * t + 1)) (xs (3 * t + 2))).2.2 (t + 1) := kp_pay hK (by omega)
  obtain ⟨F, eF⟩ : ∃ F, F = payF ρ (xs (3 * t + 1)) (xs (3 * t + 2)) := ⟨_, rfl⟩
  rw [← eF] at hr1 hr2 hr3 hF3 hKn
  obtain ⟨σ, eσ⟩ : ∃ σ : gSt, σ = fun k => if k = 48 then ρ1 48 else F.2.2 k := ⟨_, rfl⟩
  have h48 : ∀ k, k < 48 → F.2.2 k = σ k := fun k hk => by rw [eσ]; exact (if_neg (by omega)).symm
  have h49 : ∀ k, k < 49 → ρ1 k = σ k := fun k hk => by
    by_cases h : k = 48
    · subst h
      rw [eσ]
      rfl
    · rw [← h48 k (by omega)]
      exact hr2 k (by omega)
  have hKs : gKp σ (t + 1) := kp_48 h48 hKn
  have hs0 : F.1 = 0 → σ 48 0 = F.2.1 := fun h => by rw [← h49 48 (by omega)]; exact hr3 h
  refine g_congr (ρ1 := rW σ (rM ρ th a)) (fun k hk => by rw [rW_b1 h49]) ?_
  rw [hr1]
  refine g_istore X [(5, .int (nI F.1)), (4, .int (nI (3 * t))), (0, .ref b), (1, .ref (ad 0)), (2, .ref (ad 49)), (3, .ref (ad 48))] dL_law_1050 (by omega) rfl ?_
  refine g_aload_n X dL_law_1052 4 rfl rfl ?_
  refine g_aload_n X dL_law_1053 2 rfl rfl ?_
  refine g_iload X dL_law_1054 1 rfl ?_
  refine g_iconst X (v := nI 1) dL_law_1056 (by decide) ?_
  refine g_iadd X dL_law_1057 ?_
  rw [nI_add]
  refine g_sld X hXs hbl hbA (3 * t + 1) (by omega) hL31 dL_law_1058 ?_
  refine g_aload_n X dL_law_1059 2 rfl rfl ?_
  refine g_iload X dL_law_1060 1 rfl ?_
  refine g_iconst X (v := nI 2) dL_law_1062 (by decide) ?_
  refine g_iadd X dL_law_1063 ?_
  rw [nI_add]
  refine g_sld X hXs hbl hbA (3 * t + 2) (by omega) hL31 dL_law_1064 ?_
  refine g_mcallVi_at X 49 49 (by rw [rW_M]; exact c_X5_pays l D cy (fun j => ad (49 + j)) ρ th a t T S d hI (xs (3 * t + 1)) (xs (3 * t + 2))) kl_L_135 ⟨rfl, rfl, Nat.le_of_ble_eq_true rfl, Nat.le_of_ble_eq_true rfl⟩ gSubLM (by omega) lL_M kv_X5 rfl rfl (Nat.le_of_ble_eq_true rfl) dL_law_1065 ⟨by show k9 + 3 + 0 ≤ 788088; omega, by show n9 + 18 + 0 ≤ 6731839; omega⟩ (fun r2 μ1 hp2 => ?_)
  obtain ⟨a9, rfl, hp3⟩ := hp2
  rw [← eF] at hp3
  refine g_congr (ρ1 := rW σ (rM σ (nI F.1) a9)) (fun k hk => by rw [rW_b2 hk, ← eF, rM_48 h48]) ?_
  refine g_istore X [(6, .int r2), (5, .int (nI F.1)), (4, .int (nI (3 * t))), (0, .ref b), (1, .ref (ad 0)), (2, .ref (ad 49)), (3, .ref (ad 48))] dL_law_1068 (by omega) rfl ?_
  refine g_aload_n X dL_law_1070 5 rfl rfl ?_
  refine g_mcallVi_at X 49 49 (by rw [rW_M]; exact c_X5_thrown l D cy (fun j => ad (49 + j)) σ (nI F.1) a9) kl_L_85 ⟨rfl, rfl, Nat.le_of_ble_eq_true rfl, Nat.le_of_ble_eq_true rfl⟩ gSubLM (by omega) lL_M kv_X5 rfl rfl (Nat.le_of_ble_eq_true rfl) dL_law_1071 ⟨by show k9 + 3 + 0 + 0 ≤ 788088; omega, by show n9 + 18 + 0 + 0 ≤ 6731839; omega⟩ (fun r3 μ1 hp4 => ?_)
  obtain ⟨rfl, rfl⟩ := hp4
  refine g_congr (ρ1 := rW σ (rM σ (nI F.1) a9)) (fun k hk => by rw [rW_b2 hk]) ?_
  have fin : GW p l e room_1 s m #[.ref b] below meth c Q 9 D A 67 ad (cL ad cy) (rW σ (rM σ (nI F.1) a9)) (k9 + 3 + 0 + 0) (n9 + 18 + 0 + 0) 1098 [(6, .int r2), (5, .int (nI F.1)), (4, .int (nI (3 * t))), (0, .ref b), (1, .ref (ad 0)), (2, .ref (ad 49)), (3, .ref (ad 48))] [] := by
    refine g_goto X 1392 dL_law_1098 (by decide) ?_
    refine g_ls (ls' := [(4, .int (nI (3 * t))), (0, .ref b), (1, .ref (ad 0)), (2, .ref (ad 49)), (3, .ref (ad 48))]) [2, 3, 4, 5, 6] rfl ?_
    exact g_widen (by omega) (by omega) (kk σ (nI F.1) a9 hKs)
  refine g_iload X dL_law_1074 1 rfl ?_
  refine g_icmp_eq X 1081 dL_law_1076 (by decide) (fun _ => ?_) (fun h => absurd rfl h)
  refine g_iload X dL_law_1081 1 rfl ?_
  refine g_if_ne X 1098 dL_law_1083 (by decide) (fun _ => fin) (fun h0 => ?_)
  have hz : F.1 = 0 := (nI_z (by omega)).mp h0
  refine g_aload_n X dL_law_1086 6 rfl rfl ?_
  refine g_iconst X (v := nI 0) dL_law_1087 (by decide) ?_
  refine g_lald X 48 (by omega) lL_out (pk_in 0 1 (by omega) rfl) dL_law_1088 ?_
  refine g_iload X dL_law_1089 0 rfl ?_
  refine g_i2l X dL_law_1091 ?_
  refine g_lcmp X dL_law_1092 ?_
  rw [show rW σ (rM σ (nI F.1) a9) 48 (nI 0).toNatClampNeg = r2 from (hs0 hz).trans (hp3 hz).symm]
  exact g_if_eq X 1098 dL_law_1093 (by decide) (fun _ => fin) (fun h => absurd lg_self h)
theorem xk_bes {ρ : gSt} {x : Int32} : (besF ρ x).1 < 3 := by
  unfold besF
  repeat' split
  all_goals exact Nat.lt_of_sub_pos (Nat.le_of_ble_eq_true rfl)
theorem k_best {p : Program} {l : Launch} {e : Env} {s : State} {m : MethodId} {below : List Frame} {meth : Method} {c : Code} {Q : State → Prop} {D : va_G} {cy : Nat → ClassId} {A : Nat → Prop} {b L : Nat} {xs : Nat → Int32} {ad : Nat → Nat} (Y : lwX p l m c s b L xs D cy A) (k9 n9 t : Nat) (ρ : gSt) (th a : Int32) (hK : gKp ρ t) (ht : 3 * t + 3 ≤ L) (hroom : k9 + 52 ≤ 788088 ∧ n9 + 299 ≤ 6731839) (kk : ∀ (ρ' : gSt) (th' a' : Int32), gKp ρ' (t + 1) → GW p l e room_1 s m #[.ref b] below meth c Q 9 D A 67 ad (cL ad cy) (rW ρ' (rM ρ' th' a')) (k9 + 52) (n9 + 299) 1392 [(4, .int (nI (3 * t))), (0, .ref b), (1, .ref (ad 0)), (2, .ref (ad 49)), (3, .ref (ad 48))] []) : GW p l e room_1 s m #[.ref b] below meth c Q 9 D A 67 ad (cL ad cy) (rW ρ (rM ρ th a)) (k9) (n9) 1101 [(4, .int (nI (3 * t))), (0, .ref b), (1, .ref (ad 0)), (2, .ref (ad 49)), (3, .ref (ad 48))] [] := by
  obtain ⟨X, hE, hC, hXs, hbl, hbA, hL, hl0⟩ := Y
  have hL31 : L < 2 ^ 31 := by omega
  obtain ⟨T, S, d, hI⟩ := id hK
  refine g_aload_n X dL_law_1101 2 rfl rfl ?_
  refine g_aload_n X dL_law_1102 1 rfl rfl ?_
  refine g_iload X dL_law_1103 0 rfl ?_
  refine g_iconst X (v := nI 1) dL_law_1105 (by decide) ?_
  refine g_iadd X dL_law_1106 ?_
  rw [nI_add]
  refine g_sld X hXs hbl hbA (3 * t + 1) (by omega) hL31 dL_law_1107 ?_
  refine g_aload_n X dL_law_1108 4 rfl rfl ?_
  refine g_hcall X hE hC 0 ρ (fun j hj => by rw [rW_C hj]) (c_L_best l hl0 D cy ad ρ t T S d hI (xs (3 * t + 1))) kl_L_136 ⟨rfl, rfl, Nat.le_of_ble_eq_true rfl, Nat.le_of_ble_eq_true rfl⟩ gSubL rfl rfl (Nat.le_of_ble_eq_true rfl) dL_law_1109 ⟨by show k9 + 3 ≤ 788088; omega, by show n9 + 18 ≤ 6731839; omega⟩ (fun r ρ1 hp => ?_)
  obtain ⟨hr1, hr2, hr3⟩ := hp
  have hF3 : (besF ρ (xs (3 * t + 1))).1 < 3 := xk_bes
  have hKn : gKp (besF ρ (xs (3 * t + 1))).2.2 (t + 1) := kp_bes hK (by omega)
  obtain ⟨F, eF⟩ : ∃ F, F = besF ρ (xs (3 * t + 1)) := ⟨_, rfl⟩
  rw [← eF] at hr1 hr2 hr3 hF3 hKn
  obtain ⟨σ, eσ⟩ : ∃ σ : gSt, σ = fun k => if k = 48 then ρ1 48 else F.2.2 k := ⟨_, rfl⟩
  have h48 : ∀ k, k < 48 → F.2.2 k = σ k := fun k hk => by rw [eσ]; exact (if_neg (by omega)).symm
  have h49 : ∀ k, k < 49 → ρ1 k = σ k := fun k hk => by
    by_cases h : k = 48
    · subst h
      rw [eσ]
      rfl
    · rw [← h48 k (by omega)]
      exact hr2 k (by omega)
  have hKs : gKp σ (t + 1) := kp_48 h48 hKn
  have hs0 : F.1 = 0 → σ 48 0 = F.2.1 := fun h => by rw [← h49 48 (by omega)]; exact hr3 h
  refine g_congr (ρ1 := rW σ (rM ρ th a)) (fun k hk => by rw [rW_b1 h49]) ?_
  rw [hr1]
  refine g_istore X [(5, .int (nI F.1)), (4, .int (nI (3 * t))), (0, .ref b), (1, .ref (ad 0)), (2, .ref (ad 49)), (3, .ref (ad 48))] dL_law_1112 (by omega) rfl ?_
  refine g_aload_n X dL_law_1114 4 rfl rfl ?_
  refine g_aload_n X dL_law_1115 2 rfl rfl ?_
  refine g_iload X dL_law_1116 1 rfl ?_
  refine g_iconst X (v := nI 1) dL_law_1118 (by decide) ?_
  refine g_iadd X dL_law_1119 ?_
  rw [nI_add]
  refine g_sld X hXs hbl hbA (3 * t + 1) (by omega) hL31 dL_law_1120 ?_
  refine g_mcallVi_at X 49 49 (by rw [rW_M]; exact c_X5_best l D cy (fun j => ad (49 + j)) ρ th a t T S d hI (xs (3 * t + 1))) kl_L_138 ⟨rfl, rfl, Nat.le_of_ble_eq_true rfl, Nat.le_of_ble_eq_true rfl⟩ gSubLM (by omega) lL_M kv_X5 rfl rfl (Nat.le_of_ble_eq_true rfl) dL_law_1121 ⟨by show k9 + 3 + 0 ≤ 788088; omega, by show n9 + 18 + 0 ≤ 6731839; omega⟩ (fun r2 μ1 hp2 => ?_)
  obtain ⟨a9, rfl, hp3⟩ := hp2
  rw [← eF] at hp3
  refine g_congr (ρ1 := rW σ (rM σ (nI F.1) a9)) (fun k hk => by rw [rW_b2 hk, ← eF, rM_48 h48]) ?_
  refine g_istore X [(6, .int r2), (5, .int (nI F.1)), (4, .int (nI (3 * t))), (0, .ref b), (1, .ref (ad 0)), (2, .ref (ad 49)), (3, .ref (ad 48))] dL_law_1124 (by omega) rfl ?_
  refine g_aload_n X dL_law_1126 5 rfl rfl ?_
  refine g_mcallVi_at X 49 49 (by rw [rW_M]; exact c_X5_thrown l D cy (fun j => ad (49 + j)) σ (nI F.1) a9) kl_L_85 ⟨rfl, rfl, Nat.le_of_ble_eq_true rfl, Nat.le_of_ble_eq_true rfl⟩ gSubLM (by omega) lL_M kv_X5 rfl rfl (Nat.le_of_ble_eq_true rfl) dL_law_1127 ⟨by show k9 + 3 + 0 + 0 ≤ 788088; omega, by show n9 + 18 + 0 + 0 ≤ 6731839; omega⟩ (fun r3 μ1 hp4 => ?_)
  obtain ⟨rfl, rfl⟩ := hp4
  refine g_congr (ρ1 := rW σ (rM σ (nI F.1) a9)) (fun k hk => by rw [rW_b2 hk]) ?_
  have fin : GW p l e room_1 s m #[.ref b] below meth c Q 9 D A 67 ad (cL ad cy) (rW σ (rM σ (nI F.1) a9)) (k9 + 3 + 0 + 0) (n9 + 18 + 0 + 0) 1154 [(6, .int r2), (5, .int (nI F.1)), (4, .int (nI (3 * t))), (0, .ref b), (1, .ref (ad 0)), (2, .ref (ad 49)), (3, .ref (ad 48))] [] := by
    refine g_goto X 1392 dL_law_1154 (by decide) ?_
    refine g_ls (ls' := [(4, .int (nI (3 * t))), (0, .ref b), (1, .ref (ad 0)), (2, .ref (ad 49)), (3, .ref (ad 48))]) [2, 3, 4, 5, 6] rfl ?_
    exact g_widen (by omega) (by omega) (kk σ (nI F.1) a9 hKs)
  refine g_iload X dL_law_1130 1 rfl ?_
  refine g_icmp_eq X 1137 dL_law_1132 (by decide) (fun _ => ?_) (fun h => absurd rfl h)
  refine g_iload X dL_law_1137 1 rfl ?_
  refine g_if_ne X 1154 dL_law_1139 (by decide) (fun _ => fin) (fun h0 => ?_)
  have hz : F.1 = 0 := (nI_z (by omega)).mp h0
  refine g_aload_n X dL_law_1142 6 rfl rfl ?_
  refine g_iconst X (v := nI 0) dL_law_1143 (by decide) ?_
  refine g_lald X 48 (by omega) lL_out (pk_in 0 1 (by omega) rfl) dL_law_1144 ?_
  refine g_iload X dL_law_1145 0 rfl ?_
  refine g_i2l X dL_law_1147 ?_
  refine g_lcmp X dL_law_1148 ?_
  rw [show rW σ (rM σ (nI F.1) a9) 48 (nI 0).toNatClampNeg = r2 from (hs0 hz).trans (hp3 hz).symm]
  exact g_if_eq X 1154 dL_law_1149 (by decide) (fun _ => fin) (fun h => absurd lg_self h)
theorem xk_wor {ρ : gSt} {x : Int32} : (worF ρ x).1 < 3 := by
  unfold worF
  repeat' split
  all_goals exact Nat.lt_of_sub_pos (Nat.le_of_ble_eq_true rfl)
theorem k_worst {p : Program} {l : Launch} {e : Env} {s : State} {m : MethodId} {below : List Frame} {meth : Method} {c : Code} {Q : State → Prop} {D : va_G} {cy : Nat → ClassId} {A : Nat → Prop} {b L : Nat} {xs : Nat → Int32} {ad : Nat → Nat} (Y : lwX p l m c s b L xs D cy A) (k9 n9 t : Nat) (ρ : gSt) (th a : Int32) (hK : gKp ρ t) (ht : 3 * t + 3 ≤ L) (hroom : k9 + 52 ≤ 788088 ∧ n9 + 299 ≤ 6731839) (kk : ∀ (ρ' : gSt) (th' a' : Int32), gKp ρ' (t + 1) → GW p l e room_1 s m #[.ref b] below meth c Q 9 D A 67 ad (cL ad cy) (rW ρ' (rM ρ' th' a')) (k9 + 52) (n9 + 299) 1392 [(4, .int (nI (3 * t))), (0, .ref b), (1, .ref (ad 0)), (2, .ref (ad 49)), (3, .ref (ad 48))] []) : GW p l e room_1 s m #[.ref b] below meth c Q 9 D A 67 ad (cL ad cy) (rW ρ (rM ρ th a)) (k9) (n9) 1157 [(4, .int (nI (3 * t))), (0, .ref b), (1, .ref (ad 0)), (2, .ref (ad 49)), (3, .ref (ad 48))] [] := by
  obtain ⟨X, hE, hC, hXs, hbl, hbA, hL, hl0⟩ := Y
  have hL31 : L < 2 ^ 31 := by omega
  obtain ⟨T, S, d, hI⟩ := id hK
  refine g_aload_n X dL_law_1157 2 rfl rfl ?_
  refine g_aload_n X dL_law_1158 1 rfl rfl ?_
  refine g_iload X dL_law_1159 0 rfl ?_
  refine g_iconst X (v := nI 1) dL_law_1161 (by decide) ?_
  refine g_iadd X dL_law_1162 ?_
  rw [nI_add]
  refine g_sld X hXs hbl hbA (3 * t + 1) (by omega) hL31 dL_law_1163 ?_
  refine g_aload_n X dL_law_1164 4 rfl rfl ?_
  refine g_hcall X hE hC 0 ρ (fun j hj => by rw [rW_C hj]) (c_L_worst l hl0 D cy ad ρ t T S d hI (xs (3 * t + 1))) kl_L_139 ⟨rfl, rfl, Nat.le_of_ble_eq_true rfl, Nat.le_of_ble_eq_true rfl⟩ gSubL rfl rfl (Nat.le_of_ble_eq_true rfl) dL_law_1165 ⟨by show k9 + 3 ≤ 788088; omega, by show n9 + 18 ≤ 6731839; omega⟩ (fun r ρ1 hp => ?_)
  obtain ⟨hr1, hr2, hr3⟩ := hp
  have hF3 : (worF ρ (xs (3 * t + 1))).1 < 3 := xk_wor
  have hKn : gKp (worF ρ (xs (3 * t + 1))).2.2 (t + 1) := kp_wor hK (by omega)
  obtain ⟨F, eF⟩ : ∃ F, F = worF ρ (xs (3 * t + 1)) := ⟨_, rfl⟩
  rw [← eF] at hr1 hr2 hr3 hF3 hKn
  obtain ⟨σ, eσ⟩ : ∃ σ : gSt, σ = fun k => if k = 48 then ρ1 48 else F.2.2 k := ⟨_, rfl⟩
  have h48 : ∀ k, k < 48 → F.2.2 k = σ k := fun k hk => by rw [eσ]; exact (if_neg (by omega)).symm
  have h49 : ∀ k, k < 49 → ρ1 k = σ k := fun k hk => by
    by_cases h : k = 48
    · subst h
      rw [eσ]
      rfl
    · rw [← h48 k (by omega)]
      exact hr2 k (by omega)
  have hKs : gKp σ (t + 1) := kp_48 h48 hKn
  have hs0 : F.1 = 0 → σ 48 0 = F.2.1 := fun h => by rw [← h49 48 (by omega)]; exact hr3 h
  refine g_congr (ρ1 := rW σ (rM ρ th a)) (fun k hk => by rw [rW_b1 h49]) ?_
  rw [hr1]
  refine g_istore X [(5, .int (nI F.1)), (4, .int (nI (3 * t))), (0, .ref b), (1, .ref (ad 0)), (2, .ref (ad 49)), (3, .ref (ad 48))] dL_law_1168 (by omega) rfl ?_
  refine g_aload_n X dL_law_1170 4 rfl rfl ?_
  refine g_aload_n X dL_law_1171 2 rfl rfl ?_
  refine g_iload X dL_law_1172 1 rfl ?_
  refine g_iconst X (v := nI 1) dL_law_1174 (by decide) ?_
  refine g_iadd X dL_law_1175 ?_
  rw [nI_add]
  refine g_sld X hXs hbl hbA (3 * t + 1) (by omega) hL31 dL_law_1176 ?_
  refine g_mcallVi_at X 49 49 (by rw [rW_M]; exact c_X5_worst l D cy (fun j => ad (49 + j)) ρ th a t T S d hI (xs (3 * t + 1))) kl_L_141 ⟨rfl, rfl, Nat.le_of_ble_eq_true rfl, Nat.le_of_ble_eq_true rfl⟩ gSubLM (by omega) lL_M kv_X5 rfl rfl (Nat.le_of_ble_eq_true rfl) dL_law_1177 ⟨by show k9 + 3 + 0 ≤ 788088; omega, by show n9 + 18 + 0 ≤ 6731839; omega⟩ (fun r2 μ1 hp2 => ?_)
  obtain ⟨a9, rfl, hp3⟩ := hp2
  rw [← eF] at hp3
  refine g_congr (ρ1 := rW σ (rM σ (nI F.1) a9)) (fun k hk => by rw [rW_b2 hk, ← eF, rM_48 h48]) ?_
  refine g_istore X [(6, .int r2), (5, .int (nI F.1)), (4, .int (nI (3 * t))), (0, .ref b), (1, .ref (ad 0)), (2, .ref (ad 49)), (3, .ref (ad 48))] dL_law_1180 (by omega) rfl ?_
  refine g_aload_n X dL_law_1182 5 rfl rfl ?_
  refine g_mcallVi_at X 49 49 (by rw [rW_M]; exact c_X5_thrown l D cy (fun j => ad (49 + j)) σ (nI F.1) a9) kl_L_85 ⟨rfl, rfl, Nat.le_of_ble_eq_true rfl, Nat.le_of_ble_eq_true rfl⟩ gSubLM (by omega) lL_M kv_X5 rfl rfl (Nat.le_of_ble_eq_true rfl) dL_law_1183 ⟨by show k9 + 3 + 0 + 0 ≤ 788088; omega, by show n9 + 18 + 0 + 0 ≤ 6731839; omega⟩ (fun r3 μ1 hp4 => ?_)
  obtain ⟨rfl, rfl⟩ := hp4
  refine g_congr (ρ1 := rW σ (rM σ (nI F.1) a9)) (fun k hk => by rw [rW_b2 hk]) ?_
  have fin : GW p l e room_1 s m #[.ref b] below meth c Q 9 D A 67 ad (cL ad cy) (rW σ (rM σ (nI F.1) a9)) (k9 + 3 + 0 + 0) (n9 + 18 + 0 + 0) 1210 [(6, .int r2), (5, .int (nI F.1)), (4, .int (nI (3 * t))), (0, .ref b), (1, .ref (ad 0)), (2, .ref (ad 49)), (3, .ref (ad 48))] [] := by
    refine g_goto X 1392 dL_law_1210 (by decide) ?_
    refine g_ls (ls' := [(4, .int (nI (3 * t))), (0, .ref b), (1, .ref (ad 0)), (2, .ref (ad 49)), (3, .ref (ad 48))]) [2, 3, 4, 5, 6] rfl ?_
    exact g_widen (by omega) (by omega) (kk σ (nI F.1) a9 hKs)
  refine g_iload X dL_law_1186 1 rfl ?_
  refine g_icmp_eq X 1193 dL_law_1188 (by decide) (fun _ => ?_) (fun h => absurd rfl h)
  refine g_iload X dL_law_1193 1 rfl ?_
  refine g_if_ne X 1210 dL_law_1195 (by decide) (fun _ => fin) (fun h0 => ?_)
  have hz : F.1 = 0 := (nI_z (by omega)).mp h0
  refine g_aload_n X dL_law_1198 6 rfl rfl ?_
  refine g_iconst X (v := nI 0) dL_law_1199 (by decide) ?_
  refine g_lald X 48 (by omega) lL_out (pk_in 0 1 (by omega) rfl) dL_law_1200 ?_
  refine g_iload X dL_law_1201 0 rfl ?_
  refine g_i2l X dL_law_1203 ?_
  refine g_lcmp X dL_law_1204 ?_
  rw [show rW σ (rM σ (nI F.1) a9) 48 (nI 0).toNatClampNeg = r2 from (hs0 hz).trans (hp3 hz).symm]
  exact g_if_eq X 1210 dL_law_1205 (by decide) (fun _ => fin) (fun h => absurd lg_self h)
theorem xk_for {ρ : gSt} {x y : Int32} : (forF ρ x y).1 < 3 := by
  unfold forF
  repeat' split
  all_goals exact Nat.lt_of_sub_pos (Nat.le_of_ble_eq_true rfl)
theorem k_foresee {p : Program} {l : Launch} {e : Env} {s : State} {m : MethodId} {below : List Frame} {meth : Method} {c : Code} {Q : State → Prop} {D : va_G} {cy : Nat → ClassId} {A : Nat → Prop} {b L : Nat} {xs : Nat → Int32} {ad : Nat → Nat} (Y : lwX p l m c s b L xs D cy A) (k9 n9 t : Nat) (ρ : gSt) (th a : Int32) (hK : gKp ρ t) (ht : 3 * t + 3 ≤ L) (hroom : k9 + 52 ≤ 788088 ∧ n9 + 299 ≤ 6731839) (kk : ∀ (ρ' : gSt) (th' a' : Int32), gKp ρ' (t + 1) → GW p l e room_1 s m #[.ref b] below meth c Q 9 D A 67 ad (cL ad cy) (rW ρ' (rM ρ' th' a')) (k9 + 52) (n9 + 299) 1392 [(4, .int (nI (3 * t))), (0, .ref b), (1, .ref (ad 0)), (2, .ref (ad 49)), (3, .ref (ad 48))] []) : GW p l e room_1 s m #[.ref b] below meth c Q 9 D A 67 ad (cL ad cy) (rW ρ (rM ρ th a)) (k9) (n9) 1213 [(4, .int (nI (3 * t))), (0, .ref b), (1, .ref (ad 0)), (2, .ref (ad 49)), (3, .ref (ad 48))] [] := by
  obtain ⟨X, hE, hC, hXs, hbl, hbA, hL, hl0⟩ := Y
  have hL31 : L < 2 ^ 31 := by omega
  obtain ⟨T, S, d, hI⟩ := id hK
  refine g_aload_n X dL_law_1213 2 rfl rfl ?_
  refine g_aload_n X dL_law_1214 1 rfl rfl ?_
  refine g_iload X dL_law_1215 0 rfl ?_
  refine g_iconst X (v := nI 1) dL_law_1217 (by decide) ?_
  refine g_iadd X dL_law_1218 ?_
  rw [nI_add]
  refine g_sld X hXs hbl hbA (3 * t + 1) (by omega) hL31 dL_law_1219 ?_
  refine g_aload_n X dL_law_1220 1 rfl rfl ?_
  refine g_iload X dL_law_1221 0 rfl ?_
  refine g_iconst X (v := nI 2) dL_law_1223 (by decide) ?_
  refine g_iadd X dL_law_1224 ?_
  rw [nI_add]
  refine g_sld X hXs hbl hbA (3 * t + 2) (by omega) hL31 dL_law_1225 ?_
  refine g_aload_n X dL_law_1226 4 rfl rfl ?_
  refine g_hcall X hE hC 0 ρ (fun j hj => by rw [rW_C hj]) (c_L_foresee l hl0 D cy ad ρ t T S d hI (xs (3 * t + 1)) (xs (3 * t + 2))) kl_L_142 ⟨rfl, rfl, Nat.le_of_ble_eq_true rfl, Nat.le_of_ble_eq_true rfl⟩ gSubL rfl rfl (Nat.le_of_ble_eq_true rfl) dL_law_1227 ⟨by show k9 + 3 ≤ 788088; omega, by show n9 + 18 ≤ 6731839; omega⟩ (fun r ρ1 hp => ?_)
  obtain ⟨hr1, hr2, hr3⟩ := hp
  have hF3 : (forF ρ (xs (3 * t + 1)) (xs (3 * t + 2))).1 < 3 := xk_for
  have hKn : gKp (forF ρ (xs (3 * t + 1)) (xs (3 * t + 2))).2.2 (t + 1) := kp_for hK (by omega)
  obtain ⟨F, eF⟩ : ∃ F, F = forF ρ (xs (3 * t + 1)) (xs (3 * t + 2)) := ⟨_, rfl⟩
  rw [← eF] at hr1 hr2 hr3 hF3 hKn
  obtain ⟨σ, eσ⟩ : ∃ σ : gSt, σ = fun k => if k = 48 then ρ1 48 else F.2.2 k := ⟨_, rfl⟩
  have h48 : ∀ k, k < 48 → F.2.2 k = σ k := fun k hk => by rw [eσ]; exact (if_neg (by omega)).symm
  have h49 : ∀ k, k < 49 → ρ1 k = σ k := fun k hk => by
    by_cases h : k = 48
    · subst h
      rw [eσ]
      rfl
    · rw [← h48 k (by omega)]
      exact hr2 k (by omega)
  have hKs : gKp σ (t + 1) := kp_48 h48 hKn
  have hs0 : F.1 = 0 → σ 48 0 = F.2.1 := fun h => by rw [← h49 48 (by omega)]; exact hr3 h
  refine g_congr (ρ1 := rW σ (rM ρ th a)) (fun k hk => by rw [rW_b1 h49]) ?_
  rw [hr1]
  refine g_istore X [(5, .int (nI F.1)), (4, .int (nI (3 * t))), (0, .ref b), (1, .ref (ad 0)), (2, .ref (ad 49)), (3, .ref (ad 48))] dL_law_1230 (by omega) rfl ?_
  refine g_aload_n X dL_law_1232 4 rfl rfl ?_
  refine g_aload_n X dL_law_1233 2 rfl rfl ?_
  refine g_iload X dL_law_1234 1 rfl ?_
  refine g_iconst X (v := nI 1) dL_law_1236 (by decide) ?_
  refine g_iadd X dL_law_1237 ?_
  rw [nI_add]
  refine g_sld X hXs hbl hbA (3 * t + 1) (by omega) hL31 dL_law_1238 ?_
  refine g_aload_n X dL_law_1239 2 rfl rfl ?_
  refine g_iload X dL_law_1240 1 rfl ?_
  refine g_iconst X (v := nI 2) dL_law_1242 (by decide) ?_
  refine g_iadd X dL_law_1243 ?_
  rw [nI_add]
  refine g_sld X hXs hbl hbA (3 * t + 2) (by omega) hL31 dL_law_1244 ?_
  refine g_mcallVi_at X 49 49 (by rw [rW_M]; exact c_X5_foresee l D cy (fun j => ad (49 + j)) ρ th a t T S d hI (xs (3 * t + 1)) (xs (3 * t + 2))) kl_L_144 ⟨rfl, rfl, Nat.le_of_ble_eq_true rfl, Nat.le_of_ble_eq_true rfl⟩ gSubLM (by omega) lL_M kv_X5 rfl rfl (Nat.le_of_ble_eq_true rfl) dL_law_1245 ⟨by show k9 + 3 + 0 ≤ 788088; omega, by show n9 + 18 + 0 ≤ 6731839; omega⟩ (fun r2 μ1 hp2 => ?_)
  obtain ⟨a9, rfl, hp3⟩ := hp2
  rw [← eF] at hp3
  refine g_congr (ρ1 := rW σ (rM σ (nI F.1) a9)) (fun k hk => by rw [rW_b2 hk, ← eF, rM_48 h48]) ?_
  refine g_istore X [(6, .int r2), (5, .int (nI F.1)), (4, .int (nI (3 * t))), (0, .ref b), (1, .ref (ad 0)), (2, .ref (ad 49)), (3, .ref (ad 48))] dL_law_1248 (by omega) rfl ?_
  refine g_aload_n X dL_law_1250 5 rfl rfl ?_
  refine g_mcallVi_at X 49 49 (by rw [rW_M]; exact c_X5_thrown l D cy (fun j => ad (49 + j)) σ (nI F.1) a9) kl_L_85 ⟨rfl, rfl, Nat.le_of_ble_eq_true rfl, Nat.le_of_ble_eq_true rfl⟩ gSubLM (by omega) lL_M kv_X5 rfl rfl (Nat.le_of_ble_eq_true rfl) dL_law_1251 ⟨by show k9 + 3 + 0 + 0 ≤ 788088; omega, by show n9 + 18 + 0 + 0 ≤ 6731839; omega⟩ (fun r3 μ1 hp4 => ?_)
  obtain ⟨rfl, rfl⟩ := hp4
  refine g_congr (ρ1 := rW σ (rM σ (nI F.1) a9)) (fun k hk => by rw [rW_b2 hk]) ?_
  have fin : GW p l e room_1 s m #[.ref b] below meth c Q 9 D A 67 ad (cL ad cy) (rW σ (rM σ (nI F.1) a9)) (k9 + 3 + 0 + 0) (n9 + 18 + 0 + 0) 1278 [(6, .int r2), (5, .int (nI F.1)), (4, .int (nI (3 * t))), (0, .ref b), (1, .ref (ad 0)), (2, .ref (ad 49)), (3, .ref (ad 48))] [] := by
    refine g_goto X 1392 dL_law_1278 (by decide) ?_
    refine g_ls (ls' := [(4, .int (nI (3 * t))), (0, .ref b), (1, .ref (ad 0)), (2, .ref (ad 49)), (3, .ref (ad 48))]) [2, 3, 4, 5, 6] rfl ?_
    exact g_widen (by omega) (by omega) (kk σ (nI F.1) a9 hKs)
  refine g_iload X dL_law_1254 1 rfl ?_
  refine g_icmp_eq X 1261 dL_law_1256 (by decide) (fun _ => ?_) (fun h => absurd rfl h)
  refine g_iload X dL_law_1261 1 rfl ?_
  refine g_if_ne X 1278 dL_law_1263 (by decide) (fun _ => fin) (fun h0 => ?_)
  have hz : F.1 = 0 := (nI_z (by omega)).mp h0
  refine g_aload_n X dL_law_1266 6 rfl rfl ?_
  refine g_iconst X (v := nI 0) dL_law_1267 (by decide) ?_
  refine g_lald X 48 (by omega) lL_out (pk_in 0 1 (by omega) rfl) dL_law_1268 ?_
  refine g_iload X dL_law_1269 0 rfl ?_
  refine g_i2l X dL_law_1271 ?_
  refine g_lcmp X dL_law_1272 ?_
  rw [show rW σ (rM σ (nI F.1) a9) 48 (nI 0).toNatClampNeg = r2 from (hs0 hz).trans (hp3 hz).symm]
  exact g_if_eq X 1278 dL_law_1273 (by decide) (fun _ => fin) (fun h => absurd lg_self h)
theorem xk_las {ρ : gSt} {x : Int32} : (lasF ρ x).1 < 3 := by
  unfold lasF
  repeat' split
  all_goals exact Nat.lt_of_sub_pos (Nat.le_of_ble_eq_true rfl)
theorem k_lasts {p : Program} {l : Launch} {e : Env} {s : State} {m : MethodId} {below : List Frame} {meth : Method} {c : Code} {Q : State → Prop} {D : va_G} {cy : Nat → ClassId} {A : Nat → Prop} {b L : Nat} {xs : Nat → Int32} {ad : Nat → Nat} (Y : lwX p l m c s b L xs D cy A) (k9 n9 t : Nat) (ρ : gSt) (th a : Int32) (hK : gKp ρ t) (ht : 3 * t + 3 ≤ L) (hroom : k9 + 52 ≤ 788088 ∧ n9 + 299 ≤ 6731839) (kk : ∀ (ρ' : gSt) (th' a' : Int32), gKp ρ' (t + 1) → GW p l e room_1 s m #[.ref b] below meth c Q 9 D A 67 ad (cL ad cy) (rW ρ' (rM ρ' th' a')) (k9 + 52) (n9 + 299) 1392 [(4, .int (nI (3 * t))), (0, .ref b), (1, .ref (ad 0)), (2, .ref (ad 49)), (3, .ref (ad 48))] []) : GW p l e room_1 s m #[.ref b] below meth c Q 9 D A 67 ad (cL ad cy) (rW ρ (rM ρ th a)) (k9) (n9) 1281 [(4, .int (nI (3 * t))), (0, .ref b), (1, .ref (ad 0)), (2, .ref (ad 49)), (3, .ref (ad 48))] [] := by
  obtain ⟨X, hE, hC, hXs, hbl, hbA, hL, hl0⟩ := Y
  have hL31 : L < 2 ^ 31 := by omega
  obtain ⟨T, S, d, hI⟩ := id hK
  refine g_aload_n X dL_law_1281 2 rfl rfl ?_
  refine g_aload_n X dL_law_1282 1 rfl rfl ?_
  refine g_iload X dL_law_1283 0 rfl ?_
  refine g_iconst X (v := nI 1) dL_law_1285 (by decide) ?_
  refine g_iadd X dL_law_1286 ?_
  rw [nI_add]
  refine g_sld X hXs hbl hbA (3 * t + 1) (by omega) hL31 dL_law_1287 ?_
  refine g_aload_n X dL_law_1288 4 rfl rfl ?_
  refine g_hcall X hE hC 0 ρ (fun j hj => by rw [rW_C hj]) (c_L_lasts l hl0 D cy ad ρ t T S d hI (xs (3 * t + 1))) kl_L_145 ⟨rfl, rfl, Nat.le_of_ble_eq_true rfl, Nat.le_of_ble_eq_true rfl⟩ gSubL rfl rfl (Nat.le_of_ble_eq_true rfl) dL_law_1289 ⟨by show k9 + 3 ≤ 788088; omega, by show n9 + 18 ≤ 6731839; omega⟩ (fun r ρ1 hp => ?_)
  obtain ⟨hr1, hr2, hr3⟩ := hp
  have hF3 : (lasF ρ (xs (3 * t + 1))).1 < 3 := xk_las
  have hKn : gKp (lasF ρ (xs (3 * t + 1))).2.2 (t + 1) := kp_las hK (by omega)
  obtain ⟨F, eF⟩ : ∃ F, F = lasF ρ (xs (3 * t + 1)) := ⟨_, rfl⟩
  rw [← eF] at hr1 hr2 hr3 hF3 hKn
  obtain ⟨σ, eσ⟩ : ∃ σ : gSt, σ = fun k => if k = 48 then ρ1 48 else F.2.2 k := ⟨_, rfl⟩
  have h48 : ∀ k, k < 48 → F.2.2 k = σ k := fun k hk => by rw [eσ]; exact (if_neg (by omega)).symm
  have h49 : ∀ k, k < 49 → ρ1 k = σ k := fun k hk => by
    by_cases h : k = 48
    · subst h
      rw [eσ]
      rfl
    · rw [← h48 k (by omega)]
      exact hr2 k (by omega)
  have hKs : gKp σ (t + 1) := kp_48 h48 hKn
  have hs0 : F.1 = 0 → σ 48 0 = F.2.1 := fun h => by rw [← h49 48 (by omega)]; exact hr3 h
  refine g_congr (ρ1 := rW σ (rM ρ th a)) (fun k hk => by rw [rW_b1 h49]) ?_
  rw [hr1]
  refine g_istore X [(5, .int (nI F.1)), (4, .int (nI (3 * t))), (0, .ref b), (1, .ref (ad 0)), (2, .ref (ad 49)), (3, .ref (ad 48))] dL_law_1292 (by omega) rfl ?_
  refine g_aload_n X dL_law_1294 4 rfl rfl ?_
  refine g_aload_n X dL_law_1295 2 rfl rfl ?_
  refine g_iload X dL_law_1296 1 rfl ?_
  refine g_iconst X (v := nI 1) dL_law_1298 (by decide) ?_
  refine g_iadd X dL_law_1299 ?_
  rw [nI_add]
  refine g_sld X hXs hbl hbA (3 * t + 1) (by omega) hL31 dL_law_1300 ?_
  refine g_mcallVi_at X 49 49 (by rw [rW_M]; exact c_X5_lasts l D cy (fun j => ad (49 + j)) ρ th a t T S d hI (xs (3 * t + 1))) kl_L_147 ⟨rfl, rfl, Nat.le_of_ble_eq_true rfl, Nat.le_of_ble_eq_true rfl⟩ gSubLM (by omega) lL_M kv_X5 rfl rfl (Nat.le_of_ble_eq_true rfl) dL_law_1301 ⟨by show k9 + 3 + 0 ≤ 788088; omega, by show n9 + 18 + 0 ≤ 6731839; omega⟩ (fun r2 μ1 hp2 => ?_)
  obtain ⟨a9, rfl, hp3⟩ := hp2
  rw [← eF] at hp3
  refine g_congr (ρ1 := rW σ (rM σ (nI F.1) a9)) (fun k hk => by rw [rW_b2 hk, ← eF, rM_48 h48]) ?_
  refine g_istore X [(6, .int r2), (5, .int (nI F.1)), (4, .int (nI (3 * t))), (0, .ref b), (1, .ref (ad 0)), (2, .ref (ad 49)), (3, .ref (ad 48))] dL_law_1304 (by omega) rfl ?_
  refine g_aload_n X dL_law_1306 5 rfl rfl ?_
  refine g_mcallVi_at X 49 49 (by rw [rW_M]; exact c_X5_thrown l D cy (fun j => ad (49 + j)) σ (nI F.1) a9) kl_L_85 ⟨rfl, rfl, Nat.le_of_ble_eq_true rfl, Nat.le_of_ble_eq_true rfl⟩ gSubLM (by omega) lL_M kv_X5 rfl rfl (Nat.le_of_ble_eq_true rfl) dL_law_1307 ⟨by show k9 + 3 + 0 + 0 ≤ 788088; omega, by show n9 + 18 + 0 + 0 ≤ 6731839; omega⟩ (fun r3 μ1 hp4 => ?_)
  obtain ⟨rfl, rfl⟩ := hp4
  refine g_congr (ρ1 := rW σ (rM σ (nI F.1) a9)) (fun k hk => by rw [rW_b2 hk]) ?_
  have fin : GW p l e room_1 s m #[.ref b] below meth c Q 9 D A 67 ad (cL ad cy) (rW σ (rM σ (nI F.1) a9)) (k9 + 3 + 0 + 0) (n9 + 18 + 0 + 0) 1334 [(6, .int r2), (5, .int (nI F.1)), (4, .int (nI (3 * t))), (0, .ref b), (1, .ref (ad 0)), (2, .ref (ad 49)), (3, .ref (ad 48))] [] := by
    refine g_goto X 1392 dL_law_1334 (by decide) ?_
    refine g_ls (ls' := [(4, .int (nI (3 * t))), (0, .ref b), (1, .ref (ad 0)), (2, .ref (ad 49)), (3, .ref (ad 48))]) [2, 3, 4, 5, 6] rfl ?_
    exact g_widen (by omega) (by omega) (kk σ (nI F.1) a9 hKs)
  refine g_iload X dL_law_1310 1 rfl ?_
  refine g_icmp_eq X 1317 dL_law_1312 (by decide) (fun _ => ?_) (fun h => absurd rfl h)
  refine g_iload X dL_law_1317 1 rfl ?_
  refine g_if_ne X 1334 dL_law_1319 (by decide) (fun _ => fin) (fun h0 => ?_)
  have hz : F.1 = 0 := (nI_z (by omega)).mp h0
  refine g_aload_n X dL_law_1322 6 rfl rfl ?_
  refine g_iconst X (v := nI 0) dL_law_1323 (by decide) ?_
  refine g_lald X 48 (by omega) lL_out (pk_in 0 1 (by omega) rfl) dL_law_1324 ?_
  refine g_iload X dL_law_1325 0 rfl ?_
  refine g_i2l X dL_law_1327 ?_
  refine g_lcmp X dL_law_1328 ?_
  rw [show rW σ (rM σ (nI F.1) a9) 48 (nI 0).toNatClampNeg = r2 from (hs0 hz).trans (hp3 hz).symm]
  exact g_if_eq X 1334 dL_law_1329 (by decide) (fun _ => fin) (fun h => absurd lg_self h)
theorem k_chase {p : Program} {l : Launch} {e : Env} {s : State} {m : MethodId} {below : List Frame} {meth : Method} {c : Code} {Q : State → Prop} {D : va_G} {cy : Nat → ClassId} {A : Nat → Prop} {b L : Nat} {xs : Nat → Int32} {ad : Nat → Nat} (Y : lwX p l m c s b L xs D cy A) (k9 n9 t : Nat) (ρ : gSt) (th a : Int32) (hK : gKp ρ t) (ht : 3 * t + 3 ≤ L) (hroom : k9 + 52 ≤ 788088 ∧ n9 + 299 ≤ 6731839) (kk : ∀ (ρ' : gSt) (th' a' : Int32), gKp ρ' (t + 1) → GW p l e room_1 s m #[.ref b] below meth c Q 9 D A 67 ad (cL ad cy) (rW ρ' (rM ρ' th' a')) (k9 + 52) (n9 + 299) 1392 [(4, .int (nI (3 * t))), (0, .ref b), (1, .ref (ad 0)), (2, .ref (ad 49)), (3, .ref (ad 48))] []) : GW p l e room_1 s m #[.ref b] below meth c Q 9 D A 67 ad (cL ad cy) (rW ρ (rM ρ th a)) (k9) (n9) 716 [(4, .int (nI (3 * t))), (0, .ref b), (1, .ref (ad 0)), (2, .ref (ad 49)), (3, .ref (ad 48))] [] := by
  obtain ⟨X, hE, hC, hXs, hbl, hbA, hL, hl0⟩ := Y
  have hL31 : L < 2 ^ 31 := by omega
  obtain ⟨T, S, d, hI⟩ := id hK
  refine g_aload_n X dL_law_716 2 rfl rfl ?_
  refine g_mcallVi_at X 0 0 (c_X3_chase l D cy ad _) kl_L_114 ⟨rfl, rfl, Nat.le_of_ble_eq_true rfl, Nat.le_of_ble_eq_true rfl⟩ gSubLC (by omega) lL_O kv_X3 rfl rfl (Nat.le_of_ble_eq_true rfl) dL_law_717 ⟨by show k9 + 0 ≤ 788088; omega, by show n9 + 0 ≤ 6731839; omega⟩ (fun r ρ1 hp => ?_)
  obtain ⟨hr1, hr2⟩ := hp
  have hc : r = crc ρ 1 := hr1.trans (sumI_congr (fun j _ => by show b01 (rW ρ (rM ρ th a) (0 + (1 + 3)) j) = b01 (ρ (1 + 3) j); rw [rW_C (by omega)]))
  have h48 : ∀ k, k < 48 → ρ1 k = clrR ρ 1 12 k := fun k hk => by
    rw [hr2]
    funext j
    simp only [clrR]
    rw [rW_C (by omega)]
  obtain ⟨σ, eσ⟩ : ∃ σ : gSt, σ = fun k => if k < 48 then clrR ρ 1 12 k else ρ k := ⟨_, rfl⟩
  have h49 : ∀ k, k < 48 → clrR ρ 1 12 k = σ k := fun k hk => by rw [eσ]; exact (if_pos hk).symm
  have hKs : gKp σ (t + 1) := kp_48 h49 (kp_cha hK (by omega))
  refine g_congr (ρ1 := rW σ (rM ρ th a)) (fun k hk => by rw [rW_b3 h48, eσ]) ?_
  refine g_aload_n X dL_law_720 3 rfl rfl ?_
  refine g_mcallVi_at X 49 49 (by rw [rW_M]; exact c_X5_chase l D cy (fun j => ad (49 + j)) ρ th a t T S d hI) kl_L_117 ⟨rfl, rfl, Nat.le_of_ble_eq_true rfl, Nat.le_of_ble_eq_true rfl⟩ gSubLM (by omega) lL_M kv_X5 rfl rfl (Nat.le_of_ble_eq_true rfl) dL_law_721 ⟨by show k9 + 0 + 0 ≤ 788088; omega, by show n9 + 0 + 0 ≤ 6731839; omega⟩ (fun r2 μ1 hp2 => ?_)
  obtain ⟨a9, rfl, hp3⟩ := hp2
  refine g_congr (ρ1 := rW σ (rM σ 0 a9)) (fun k hk => by rw [rW_b2 hk, rM_48 h49]) ?_
  refine g_icmp_eq X 1392 dL_law_724 (by decide) (fun _ => ?_) (fun h => absurd (hc.trans hp3.symm) h)
  exact g_widen (by show k9 + 0 + 0 ≤ k9 + 52; omega) (by show n9 + 0 + 0 ≤ n9 + 299; omega) (kk σ 0 a9 hKs)
theorem k_mean {p : Program} {l : Launch} {e : Env} {s : State} {m : MethodId} {below : List Frame} {meth : Method} {c : Code} {Q : State → Prop} {D : va_G} {cy : Nat → ClassId} {A : Nat → Prop} {b L : Nat} {xs : Nat → Int32} {ad : Nat → Nat} (Y : lwX p l m c s b L xs D cy A) (k9 n9 t : Nat) (ρ : gSt) (th a : Int32) (hK : gKp ρ t) (ht : 3 * t + 3 ≤ L) (hroom : k9 + 52 ≤ 788088 ∧ n9 + 299 ≤ 6731839) (kk : ∀ (ρ' : gSt) (th' a' : Int32), gKp ρ' (t + 1) → GW p l e room_1 s m #[.ref b] below meth c Q 9 D A 67 ad (cL ad cy) (rW ρ' (rM ρ' th' a')) (k9 + 52) (n9 + 299) 1392 [(4, .int (nI (3 * t))), (0, .ref b), (1, .ref (ad 0)), (2, .ref (ad 49)), (3, .ref (ad 48))] []) : GW p l e room_1 s m #[.ref b] below meth c Q 9 D A 67 ad (cL ad cy) (rW ρ (rM ρ th a)) (k9) (n9) 1337 [(4, .int (nI (3 * t))), (0, .ref b), (1, .ref (ad 0)), (2, .ref (ad 49)), (3, .ref (ad 48))] [] := by
  obtain ⟨X, hE, hC, hXs, hbl, hbA, hL, hl0⟩ := Y
  have hL31 : L < 2 ^ 31 := by omega
  obtain ⟨T, S, d, hI⟩ := id hK
  obtain ⟨ω, eω⟩ : ∃ ω : gSt, ω = fun j => rW ρ (rM ρ th a) (0 + j) := ⟨_, rfl⟩
  have hω : ∀ k, k < 48 → ρ k = ω k := fun k hk => by rw [eω]; exact (rW_C (by omega)).symm
  have hIω := Inv_48 hω hI
  refine g_aload_n X dL_law_1337 2 rfl rfl ?_
  refine g_mcallVd_at X 0 0 (by rw [← eω]; exact c_X3_mean l D cy ad ω t T S d hIω) kl_L_148 ⟨rfl, rfl, Nat.le_of_ble_eq_true rfl, Nat.le_of_ble_eq_true rfl⟩ gSubLC (by omega) lL_O kv_X3 rfl rfl (Nat.le_of_ble_eq_true rfl) dL_law_1338 ⟨by show k9 + 0 ≤ 788088; omega, by show n9 + 0 ≤ 6731839; omega⟩ (fun r ρ1 hp => ?_)
  obtain ⟨hr1, hrho⟩ := hp
  rw [hr1, hrho]
  refine g_congr (ρ1 := rW ρ (rM ρ th a)) (fun k hk => by rw [eω, rW_b4 hk]) ?_
  generalize hv : meaF ω = v
  refine g_dstore X [(5, .double v), (4, .int (nI (3 * t))), (0, .ref b), (1, .ref (ad 0)), (2, .ref (ad 49)), (3, .ref (ad 48))] dL_law_1341 (by omega) rfl ?_
  refine g_aload_n X dL_law_1343 4 rfl rfl ?_
  refine g_mcallVd_at X 49 49 (by rw [rW_M, rM_48 hω]; exact c_X5_mean l D cy (fun j => ad (49 + j)) ω th a t T S d hIω) kl_L_152 ⟨rfl, rfl, Nat.le_of_ble_eq_true rfl, Nat.le_of_ble_eq_true rfl⟩ gSubLM (by omega) lL_M kv_X5 rfl rfl (Nat.le_of_ble_eq_true rfl) dL_law_1344 ⟨by show k9 + 0 + 0 ≤ 788088; omega, by show n9 + 0 + 0 ≤ 6731839; omega⟩ (fun r2 μ1 hp2 => ?_)
  obtain ⟨⟨a9, rfl⟩, hr2⟩ := hp2
  rw [hv] at hr2
  subst hr2
  refine g_congr (ρ1 := rW ρ (rM ρ 0 a9)) (fun k hk => by rw [rW_b2 hk, rM_48 hω]) ?_
  refine g_dstore X [(7, .double r2), (5, .double r2), (4, .int (nI (3 * t))), (0, .ref b), (1, .ref (ad 0)), (2, .ref (ad 49)), (3, .ref (ad 48))] dL_law_1347 (by omega) rfl ?_
  have fin : GW p l e room_1 s m #[.ref b] below meth c Q 9 D A 67 ad (cL ad cy) (rW ρ (rM ρ 0 a9)) (k9 + 0 + 0) (n9 + 0 + 0) 1375 [(7, .double r2), (5, .double r2), (4, .int (nI (3 * t))), (0, .ref b), (1, .ref (ad 0)), (2, .ref (ad 49)), (3, .ref (ad 48))] [] := by
    refine g_goto X 1392 dL_law_1375 (by decide) ?_
    refine g_ls (ls' := [(4, .int (nI (3 * t))), (0, .ref b), (1, .ref (ad 0)), (2, .ref (ad 49)), (3, .ref (ad 48))]) [2, 3, 4, 5, 6] rfl ?_
    exact g_widen (by omega) (by omega) (kk ρ 0 a9 (kp_0 hK (by omega)))
  refine g_dload X dL_law_1349 1 rfl ?_
  refine g_dload X dL_law_1351 0 rfl ?_
  refine g_dcmp X dL_law_1353 ?_
  refine g_if_eq X 1375 dL_law_1354 (by decide) (fun _ => fin) (fun h1 => ?_)
  refine g_dload X dL_law_1357 1 rfl ?_
  refine g_dload X dL_law_1359 1 rfl ?_
  refine g_dcmp X dL_law_1361 ?_
  refine g_if_eq X 1373 dL_law_1362 (by decide) (fun h => absurd h h1) (fun _ => ?_)
  refine g_dload X dL_law_1365 0 rfl ?_
  refine g_dload X dL_law_1367 0 rfl ?_
  refine g_dcmp X dL_law_1369 ?_
  exact g_if_ne X 1375 dL_law_1370 (by decide) (fun _ => fin) (fun h => absurd h h1)
theorem k_digest {p : Program} {l : Launch} {e : Env} {s : State} {m : MethodId} {below : List Frame} {meth : Method} {c : Code} {Q : State → Prop} {D : va_G} {cy : Nat → ClassId} {A : Nat → Prop} {b L : Nat} {xs : Nat → Int32} {ad : Nat → Nat} (Y : lwX p l m c s b L xs D cy A) (k9 n9 t : Nat) (ρ : gSt) (th a : Int32) (hK : gKp ρ t) (ht : 3 * t + 3 ≤ L) (hroom : k9 + 52 ≤ 788088 ∧ n9 + 299 ≤ 6731839) (kk : ∀ (ρ' : gSt) (th' a' : Int32), gKp ρ' (t + 1) → GW p l e room_1 s m #[.ref b] below meth c Q 9 D A 67 ad (cL ad cy) (rW ρ' (rM ρ' th' a')) (k9 + 52) (n9 + 299) 1392 [(4, .int (nI (3 * t))), (0, .ref b), (1, .ref (ad 0)), (2, .ref (ad 49)), (3, .ref (ad 48))] []) : GW p l e room_1 s m #[.ref b] below meth c Q 9 D A 67 ad (cL ad cy) (rW ρ (rM ρ th a)) (k9) (n9) 1378 [(4, .int (nI (3 * t))), (0, .ref b), (1, .ref (ad 0)), (2, .ref (ad 49)), (3, .ref (ad 48))] [] := by
  obtain ⟨X, hE, hC, hXs, hbl, hbA, hL, hl0⟩ := Y
  have hL31 : L < 2 ^ 31 := by omega
  obtain ⟨T, S, d, hI⟩ := id hK
  obtain ⟨ω, eω⟩ : ∃ ω : gSt, ω = fun j => rW ρ (rM ρ th a) (0 + j) := ⟨_, rfl⟩
  have hω : ∀ k, k < 48 → ρ k = ω k := fun k hk => by rw [eω]; exact (rW_C (by omega)).symm
  have hIω := Inv_48 hω hI
  refine g_aload_n X dL_law_1378 2 rfl rfl ?_
  refine g_mcallVl_at X 0 0 (by rw [← eω]; exact c_X3_digest l D cy ad ω t T S d hIω) kl_L_153 ⟨rfl, rfl, Nat.le_of_ble_eq_true rfl, Nat.le_of_ble_eq_true rfl⟩ gSubLC (by omega) lL_O kv_X3 rfl rfl (Nat.le_of_ble_eq_true rfl) dL_law_1379 ⟨by show k9 + 0 ≤ 788088; omega, by show n9 + 0 ≤ 6731839; omega⟩ (fun r ρ1 hp => ?_)
  obtain ⟨hr1, hrho⟩ := hp
  rw [hrho]
  refine g_congr (ρ1 := rW ρ (rM ρ th a)) (fun k hk => by rw [eω, rW_b4 hk]) ?_
  refine g_aload_n X dL_law_1382 3 rfl rfl ?_
  refine g_mcallVl_at X 49 49 (by rw [rW_M, rM_48 hω]; exact c_X5_digest l D cy (fun j => ad (49 + j)) ω th a t T S d hIω) kl_L_157 ⟨rfl, rfl, Nat.le_of_ble_eq_true rfl, Nat.le_of_ble_eq_true rfl⟩ gSubLM (by omega) lL_M kv_X5 rfl rfl (Nat.le_of_ble_eq_true rfl) dL_law_1383 ⟨by show k9 + 0 + 49 ≤ 788088; omega, by show n9 + 0 + 281 ≤ 6731839; omega⟩ (fun r2 μ1 hp2 => ?_)
  obtain ⟨⟨a9, rfl⟩, hr2⟩ := hp2
  refine g_congr (ρ1 := rW ρ (rM ρ 0 a9)) (fun k hk => by rw [rW_b2 hk, rM_48 hω]) ?_
  refine g_lcmp X dL_law_1386 ?_
  rw [hr1, hr2]
  refine g_if_eq X 1392 dL_law_1387 (by decide) (fun _ => ?_) (fun h => absurd lg_self h)
  exact g_widen (by show k9 + 0 + 49 ≤ k9 + 52; omega) (by show n9 + 0 + 281 ≤ n9 + 299; omega) (kk ρ 0 a9 (kp_0 hK (by omega)))
theorem lw_loop {p : Program} {l : Launch} {e : Env} {s : State} {m : MethodId} {below : List Frame} {meth : Method} {c : Code} {Q : State → Prop} {D : va_G} {cy : Nat → ClassId} {A : Nat → Prop} {b L : Nat} {xs : Nat → Int32} {ad : Nat → Nat} (Y : lwX p l m c s b L xs D cy A) (kend : ∀ (t : Nat) (ρ : gSt) (th a : Int32), GW p l e room_1 s m #[.ref b] below meth c Q 9 D A 67 ad (cL ad cy) (rW ρ (rM ρ th a)) (788088) (6731839) 1398 [(4, .int (nI (3 * t))), (0, .ref b), (1, .ref (ad 0)), (2, .ref (ad 49)), (3, .ref (ad 48))] []) : ∀ f t : Nat, L ≤ 3 * t + 3 * f → t ≤ 513 → ∀ (ρ : gSt) (th a : Int32), gKp ρ t → GW p l e room_1 s m #[.ref b] below meth c Q 9 D A 67 ad (cL ad cy) (rW ρ (rM ρ th a)) (67 + 52 * t) (703 + 299 * t) 23 [(4, .int (nI (3 * t))), (0, .ref b), (1, .ref (ad 0)), (2, .ref (ad 49)), (3, .ref (ad 48))] [] := by
  have Y0 := Y
  obtain ⟨X, hE, hC, hXs, hbl, hbA, hL, hl0⟩ := Y0
  have hL31 : L < 2 ^ 31 := by omega
  intro f
  induction f with
  | zero =>
    intro t hLt ht ρ th a hK
    refine g_iload X dL_law_23 0 rfl ?_
    refine g_aload_n X dL_law_25 1 rfl rfl ?_
    refine g_slen X hXs hbl hbA dL_law_26 ?_
    refine g_iconst X (v := nI 3) dL_law_27 (by decide) ?_
    refine g_isub X dL_law_28 ?_
    refine g_icmp_gt X 1398 dL_law_29 (by decide) (fun _ => g_widen (by omega) (by omega) (kend t ρ th a)) (fun h => absurd ?_ h)
    rw [Int32.lt_iff_toInt_lt, pk_sub_toInt (by omega) (by omega), nI_toInt (by omega)]
    omega
  | succ f ih =>
    intro t hLt ht ρ th a hK
    refine g_iload X dL_law_23 0 rfl ?_
    refine g_aload_n X dL_law_25 1 rfl rfl ?_
    refine g_slen X hXs hbl hbA dL_law_26 ?_
    refine g_iconst X (v := nI 3) dL_law_27 (by decide) ?_
    refine g_isub X dL_law_28 ?_
    refine g_icmp_gt X 1398 dL_law_29 (by decide) (fun _ => g_widen (by omega) (by omega) (kend t ρ th a)) (fun h => ?_)
    have h3 : 3 * t + 3 ≤ L := by
      rcases Nat.lt_or_ge L (3 * t + 3) with q | q
      · refine absurd ?_ h
        have h9 : t ≤ 513 := ht
        rw [Int32.lt_iff_toInt_lt, pk_sub_toInt (by omega) (by omega), nI_toInt (by omega)]
        omega
      · exact q
    have hrm : 67 + 52 * t + 52 ≤ 788088 ∧ 703 + 299 * t + 299 ≤ 6731839 := ⟨by omega, by omega⟩
    have kk : ∀ (ρ' : gSt) (th' a' : Int32), gKp ρ' (t + 1) → GW p l e room_1 s m #[.ref b] below meth c Q 9 D A 67 ad (cL ad cy) (rW ρ' (rM ρ' th' a')) (67 + 52 * t + 52) (703 + 299 * t + 299) 1392 [(4, .int (nI (3 * t))), (0, .ref b), (1, .ref (ad 0)), (2, .ref (ad 49)), (3, .ref (ad 48))] [] := fun ρ' th' a' hK' => by
      refine g_iinc X (nI (3 * (t + 1))) [(4, .int (nI (3 * (t + 1)))), (0, .ref b), (1, .ref (ad 0)), (2, .ref (ad 49)), (3, .ref (ad 48))] 0 dL_law_1392 rfl (nI_add (3 * t) 3) (by omega) rfl ?_
      refine g_goto X 23 dL_law_1395 (by decide) ?_
      exact g_widen (by omega) (by omega) (ih (t + 1) (by omega) (by omega) ρ' th' a' hK')
    refine g_aload_n X dL_law_32 1 rfl rfl ?_
    refine g_iload X dL_law_33 0 rfl ?_
    refine g_sld X hXs hbl hbA (3 * t) (by omega) hL31 dL_law_35 ?_
    refine g_bipush X (v := 31) dL_law_36 (by decide) ?_
    refine g_iand X dL_law_38 ?_
    obtain ⟨v, hv, ev⟩ := pk_andE (xs (3 * t)) (m := 31) 5 rfl
    rw [ev]
    by_cases h22 : v < 22
    · rcases (show v = 0 ∨ v = 1 ∨ v = 2 ∨ v = 3 ∨ v = 4 ∨ v = 5 ∨ v = 6 ∨ v = 7 ∨ v = 8 ∨ v = 9 ∨ v = 10 ∨ v = 11 ∨ v = 12 ∨ v = 13 ∨ v = 14 ∨ v = 15 ∨ v = 16 ∨ v = 17 ∨ v = 18 ∨ v = 19 ∨ v = 20 ∨ v = 21 by omega) with rfl | rfl | rfl | rfl | rfl | rfl | rfl | rfl | rfl | rfl | rfl | rfl | rfl | rfl | rfl | rfl | rfl | rfl | rfl | rfl | rfl | rfl
      · refine g_tableIn X 140 dL_law_39 (by decide) (by decide) rfl (by decide) ?_
        exact k_barrel Y _ _ t ρ th a hK h3 hrm kk
      · refine g_tableIn X 184 dL_law_39 (by decide) (by decide) rfl (by decide) ?_
        exact k_pin Y _ _ t ρ th a hK h3 hrm kk
      · refine g_tableIn X 252 dL_law_39 (by decide) (by decide) rfl (by decide) ?_
        exact k_note Y _ _ t ρ th a hK h3 hrm kk
      · refine g_tableIn X 320 dL_law_39 (by decide) (by decide) rfl (by decide) ?_
        exact k_street Y _ _ t ρ th a hK h3 hrm kk
      · refine g_tableIn X 388 dL_law_39 (by decide) (by decide) rfl (by decide) ?_
        exact k_permit Y _ _ t ρ th a hK h3 hrm kk
      · refine g_tableIn X 456 dL_law_39 (by decide) (by decide) rfl (by decide) ?_
        exact k_setDamp Y _ _ t ρ th a hK h3 hrm kk
      · refine g_tableIn X 524 dL_law_39 (by decide) (by decide) rfl (by decide) ?_
        exact k_play Y _ _ t ρ th a hK h3 hrm kk
      · refine g_tableIn X 592 dL_law_39 (by decide) (by decide) rfl (by decide) ?_
        exact k_tune Y _ _ t ρ th a hK h3 hrm kk
      · refine g_tableIn X 660 dL_law_39 (by decide) (by decide) rfl (by decide) ?_
        exact k_felt Y _ _ t ρ th a hK h3 hrm kk
      · refine g_tableIn X 716 dL_law_39 (by decide) (by decide) rfl (by decide) ?_
        exact k_chase Y _ _ t ρ th a hK h3 hrm kk
      · refine g_tableIn X 729 dL_law_39 (by decide) (by decide) rfl (by decide) ?_
        exact k_pipe Y _ _ t ρ th a hK h3 hrm kk
      · refine g_tableIn X 797 dL_law_39 (by decide) (by decide) rfl (by decide) ?_
        exact k_sound Y _ _ t ρ th a hK h3 hrm kk
      · refine g_tableIn X 853 dL_law_39 (by decide) (by decide) rfl (by decide) ?_
        exact k_told Y _ _ t ρ th a hK h3 hrm kk
      · refine g_tableIn X 921 dL_law_39 (by decide) (by decide) rfl (by decide) ?_
        exact k_count Y _ _ t ρ th a hK h3 hrm kk
      · refine g_tableIn X 977 dL_law_39 (by decide) (by decide) rfl (by decide) ?_
        exact k_rest Y _ _ t ρ th a hK h3 hrm kk
      · refine g_tableIn X 1033 dL_law_39 (by decide) (by decide) rfl (by decide) ?_
        exact k_pays Y _ _ t ρ th a hK h3 hrm kk
      · refine g_tableIn X 1101 dL_law_39 (by decide) (by decide) rfl (by decide) ?_
        exact k_best Y _ _ t ρ th a hK h3 hrm kk
      · refine g_tableIn X 1157 dL_law_39 (by decide) (by decide) rfl (by decide) ?_
        exact k_worst Y _ _ t ρ th a hK h3 hrm kk
      · refine g_tableIn X 1213 dL_law_39 (by decide) (by decide) rfl (by decide) ?_
        exact k_foresee Y _ _ t ρ th a hK h3 hrm kk
      · refine g_tableIn X 1281 dL_law_39 (by decide) (by decide) rfl (by decide) ?_
        exact k_lasts Y _ _ t ρ th a hK h3 hrm kk
      · refine g_tableIn X 1337 dL_law_39 (by decide) (by decide) rfl (by decide) ?_
        exact k_mean Y _ _ t ρ th a hK h3 hrm kk
      · refine g_tableIn X 1378 dL_law_39 (by decide) (by decide) rfl (by decide) ?_
        exact k_digest Y _ _ t ρ th a hK h3 hrm kk
    · refine g_tableOut X 1392 dL_law_39 (Or.inr (by rw [nI_toInt (by omega)]; omega)) (by decide) ?_
      exact g_widen (by omega) (by omega) (kk ρ th a (kp_0 hK (by omega)))
theorem gE_pick {p : Program} {l : Launch} {e : Env} {R : Room} {s : State} {m : MethodId} {args : Array Value} {below : List Frame} {meth : Method} {c : Code} {Q : State → Prop} {nL : Nat} {D : va_G} {A : Nat → Prop} {n : Nat} {ad : Nat → Nat} {E : Nat → va_E} {cells slots pc : Nat} {ls : List (Nat × Value)} {st : List Value} (n' : Nat) (u : Nat → Nat) (cz' : Nat → (Nat → Int32) → va_E) (ρ' : gSt) (g : Nat → Nat) (hg : ∀ k, k < n' → g k < n ∧ ad (g k) = u k ∧ eSame (E (g k)) (cz' k (ρ' k))) (hgi : ∀ i j, i < n' → j < n' → g i = g j → i = j) (kk : GW p l e R s m args below meth c Q nL D A n' u cz' ρ' cells slots pc ls st) : GW p l e R s m args below meth c Q nL D A n ad (cE E) z0 cells slots pc ls st := fun H locs la hP hD hS hl => by
  have hi : gInj n' u := fun i j h1 h2 h3 => by
    obtain ⟨a1, a2, a3⟩ := hg i h1
    obtain ⟨b1, b2, b3⟩ := hg j h2
    rw [← a2, ← b2] at h3
    exact hgi i j h1 h2 (gD_inj hD _ _ a1 b1 h3)
  refine kk H locs la (fun k x hx => ?_) (gD_of hi (fun k hk => by rw [← (hg k hk).2.1]; exact gD_in hD (hg k hk).1)) hS hl
  obtain ⟨hk, rfl⟩ := gWl_out hx
  obtain ⟨h1, h2, h3⟩ := hg k hk
  have := hP (g k) _ (gWl_get h1)
  rw [h2] at this
  exact h3.at this
theorem gE_newl {p : Program} {l : Launch} {e : Env} {R : Room} {s : State} {m : MethodId} {args : Array Value} {below : List Frame} {meth : Method} {c : Code} {Q : State → Prop} {cc : ByteArray} {nL : Nat} {Ts : List Cond} {own : String} {D : va_G} {cy : Nat → ClassId} {A : Nat → Prop} {n : Nat} {ad : Nat → Nat} {E : Nat → va_E} {cells slots pc : Nat} {ls : List (Nat × Value)} {st : List Value} (X : gX p m c cc nL s args Ts own D cy A) (len : Nat) (hlen : len < 2 ^ 20) (hw : Cond.arrayClass .long ∈ wAll) (hroom : cells + 1 ≤ R.cells ∧ slots + len ≤ R.slots) (hd : decode cc pc = .ok (.newarray .long, 2)) (kk : ∀ q, GW p l e R s m args below meth c Q nL D A (n + 1) (xAd ad n q) (cE (uE E n (.inl (cy 4, len, .inr (.inl (fun _ => 0)))))) z0 (cells + 1) (slots + len) (pc + 2) ls (.ref q :: st)) : GW p l e R s m args below meth c Q nL D A n ad (cE E) z0 cells slots pc ls (.int (nI len) :: st) := fun H locs la hP hD hS hl => by
  refine va_newa (atype := .long) (a0 := (len, .inr (.inl (fun _ => 0)))) X.1.1 X.1.2.1 (X.1.2.2.2.2 _ (X.2.2.2.1 _ hw)) rfl X.2.1 hP hD hS X.2.2.1 (fun _ => rfl) (fun h => nI_pos (show len < 2 ^ 31 by omega) h) (nI_clamp (by omega)) (by show len * 8 ≤ _; omega) hroom.1 hroom.2 hd (fun q cA H1 hK1 hP1 hD1 hS1 => ?_)
  have e0 : cA = cy 4 := by
    have h1 := (hK1.2 5 (cA, .long) rfl).2
    have h2 := (X.2.1.2 4 (cy 4, .long) rfl).2
    exact Option.some.inj (h1.symm.trans h2)
  subst e0
  rw [← gE_push] at hP1 hD1
  exact kk q H1 locs la hP1 hD1 hS1 hl
theorem cC_same {u u' : Nat → Nat} {cy : Nat → ClassId} {k : Nat} {r : Nat → Int32} (h : ∀ j, j < 48 → u j = u' j) (hk : k < 48) : eSame (cC u cy k r) (cC u' cy k r) := by
  unfold cC
  by_cases h0 : k = 0
  · rw [if_pos h0, if_pos h0, h 1 (by omega), h 6 (by omega), h 11 (by omega), h 12 (by omega), h 13 (by omega)]
    exact Or.inl rfl
  rw [if_neg h0, if_neg h0]
  by_cases h1 : k = 1 ∨ k = 6
  · rw [if_pos h1, if_pos h1, h (k + 1) (by omega), h (k + 2) (by omega), h (k + 3) (by omega), h (k + 4) (by omega)]
    exact Or.inl rfl
  rw [if_neg h1, if_neg h1]
  by_cases h2 : k = 2 ∨ k = 3 ∨ k = 7 ∨ k = 8
  · rw [if_pos h2, if_pos h2]
    exact Or.inl rfl
  rw [if_neg h2, if_neg h2]
  by_cases h3 : k = 4 ∨ k = 5 ∨ k = 9 ∨ k = 10
  · rw [if_pos h3, if_pos h3]
    exact Or.inl rfl
  rw [if_neg h3, if_neg h3]
  by_cases h4 : k = 11
  · rw [if_pos h4, if_pos h4]
    exact Or.inr ⟨_, _, _, _, rfl, rfl, fun j hj => by rw [h _ (by omega)]⟩
  rw [if_neg h4, if_neg h4]
  by_cases h5 : k = 12
  · rw [if_pos h5, if_pos h5]
    exact Or.inr ⟨_, _, _, _, rfl, rfl, fun j hj => by rw [h _ (by omega)]⟩
  rw [if_neg h5, if_neg h5]
  by_cases h6 : k = 13
  · rw [if_pos h6, if_pos h6]
    exact Or.inl rfl
  rw [if_neg h6, if_neg h6]
  by_cases h7 : k < 32
  · rw [if_pos h7, if_pos h7]
    by_cases h8 : (k - 14) % 3 = 0
    · rw [if_pos h8, if_pos h8, h (k + 1) (by omega), h (k + 2) (by omega)]
      exact Or.inl rfl
    · rw [if_neg h8, if_neg h8]
      exact Or.inl rfl
  · rw [if_neg h7, if_neg h7]
    by_cases h8 : k % 2 = 0
    · rw [if_pos h8, if_pos h8, h (k + 1) (by omega)]
      exact Or.inl rfl
    · rw [if_neg h8, if_neg h8]
      exact Or.inl rfl
/-- the first state -/
def r0 : gSt := fun k j => if k = 0 ∧ j = 8 then 20 else 0
theorem r0_C {k : Nat} : r0 k = i0C k := by
  funext j
  unfold r0 i0C gZr
  by_cases h : k = 0
  · rw [if_pos h]
    by_cases h8 : j = 8
    · rw [if_pos ⟨h, h8⟩, if_pos h8]
    · rw [if_neg (fun q => h8 q.2), if_neg h8]
  · rw [if_neg h, if_neg (fun q => h q.1)]
theorem r0_M {k : Nat} : rM r0 0 0 k = i0M k := by
  funext j
  have z : ∀ i i2, i ≠ 0 → r0 i i2 = 0 := fun i i2 h => if_neg (fun q => h q.1)
  unfold i0M gZr
  by_cases h : k = 0
  · subst h
    by_cases h8 : j = 10
    · subst h8
      rfl
    · rw [if_pos rfl, if_neg h8]
      show (if j = 0 then (0 : Int32) else if j = 1 then r0 0 5 else if j = 4 then r0 0 6 else if j = 10 then r0 0 8 else if j = 11 then r0 0 9 else 0) = 0
      rw [if_neg h8, show r0 0 5 = 0 from rfl, show r0 0 6 = 0 from rfl, show r0 0 9 = 0 from rfl]
      simp
  · rw [if_neg h]
    simp only [rM]
    rw [if_neg h, z (14 + 3 * j) 2 (by omega), z (15 + 3 * (j / 16)) (j % 16) (by omega), z (32 + 2 * j) 1 (by omega), z (32 + 2 * j) 2 (by omega), z (32 + 2 * j) 3 (by omega), z (33 + 2 * (j / 6)) (j % 6) (by omega), z 13 j (by omega), show r0 0 7 = 0 from rfl]
    by_cases h18 : k < 8
    · rw [if_neg (show ¬ k = 8 by omega), if_neg (show ¬ k = 13 by omega)]
      by_cases h7 : k - 7 = 0
      · simp only [h7, ite_self]
        by_cases h77 : k = 7
        · subst h77
          rfl
        · have : k = 1 ∨ k = 2 ∨ k = 3 ∨ k = 4 ∨ k = 5 ∨ k = 6 := by omega
          rcases this with rfl | rfl | rfl | rfl | rfl | rfl <;> rfl
      · omega
    · rw [z (k - 7) j (by omega)]
      simp
theorem r0_inv : gKp r0 0 := by
  refine ⟨0, 0, 0, rfl, by omega, rfl, by omega, rfl, by omega, by omega, fun t ht => ⟨0, if_neg (by omega), by omega, fun k hk => absurd hk (Nat.not_lt_zero k), fun q hq => if_neg (by omega)⟩, fun z hz => ⟨⟨0, by omega, if_neg (by omega)⟩, fun t ht => ⟨0, by omega, if_neg (by omega)⟩⟩, fun i hi => ⟨⟨0, by omega, rfl⟩, ⟨(show (-60 : Int32) ≤ 0 by decide), (show (0 : Int32) ≤ 60 by decide)⟩, Or.inl rfl, Or.inl rfl⟩, fun z h1 h2 t ht => if_neg (by omega), fun z hz t h1 h2 => if_neg (by omega)⟩
