/-! The class's cells: 0 the organ; 1 and 6 the pipes and the trial (each with worn, off, cricket, played behind it); 11 tunes, 12 streets, 13 damp; from 14 on each tune with its notes and times; from 32 on each street with what it heard -/
def cC (ad : Nat → Nat) (cy : Nat → ClassId) (k : Nat) (r : Nat → Int32) : va_E :=
  if k = 0 then .inr (3, [.ref (ad 1), .ref (ad 6), .ref (ad 11), .ref (ad 12), .ref (ad 13), .int (r 5), .int (r 6), .int (r 7), .int (r 8), .int (r 9)])
  else if k = 1 ∨ k = 6 then .inr (0, [.ref (ad (k + 1)), .ref (ad (k + 2)), .ref (ad (k + 3)), .ref (ad (k + 4))])
  else if k = 2 ∨ k = 3 ∨ k = 7 ∨ k = 8 then .inl (cy 0, 12, .inl r)
  else if k = 4 ∨ k = 5 ∨ k = 9 ∨ k = 10 then .inl (cy 1, 12, .inl r)
  else if k = 11 then .inl (cy 2, 6, .inr (.inr (.inr (.inr (fun i => some (ad (14 + 3 * i)))))))
  else if k = 12 then .inl (cy 3, 8, .inr (.inr (.inr (.inr (fun i => some (ad (32 + 2 * i)))))))
  else if k = 13 then .inl (cy 0, 7, .inl r)
  else if k < 32 then (if (k - 14) % 3 = 0 then .inr (2, [.ref (ad (k + 1)), .ref (ad (k + 2)), .int (r 2)]) else if (k - 14) % 3 = 1 then .inl (cy 0, 16, .inl r) else .inl (cy 0, 12, .inl r))
  else if k % 2 = 0 then .inr (1, [.ref (ad (k + 1)), .int (r 1), .int (r 2), .int (r 3)])
  else .inl (cy 0, 6, .inl r)
def isP (b : Nat) : Prop := b = 1 ∨ b = 6
section LC
variable {ad : Nat → Nat} {cy : Nat → ClassId} {b t i : Nat}
theorem isP_lt (h : isP b) : b < 10 := by rcases h with rfl | rfl <;> decide
theorem lC_f_worn (h : isP b) : gFR (cC ad cy) ad b 0 0 (b + 1) := by rcases h with rfl | rfl <;> exact fun r => ⟨_, rfl, rfl⟩
theorem lC_worn (h : isP b) : gAI (cC ad cy) (cy 0) (b + 1) 12 := by rcases h with rfl | rfl <;> exact fun r => rfl
theorem lC_f_off (h : isP b) : gFR (cC ad cy) ad b 0 1 (b + 2) := by rcases h with rfl | rfl <;> exact fun r => ⟨_, rfl, rfl⟩
theorem lC_off (h : isP b) : gAI (cC ad cy) (cy 0) (b + 2) 12 := by rcases h with rfl | rfl <;> exact fun r => rfl
theorem lC_f_cri (h : isP b) : gFR (cC ad cy) ad b 0 2 (b + 3) := by rcases h with rfl | rfl <;> exact fun r => ⟨_, rfl, rfl⟩
theorem lC_cri (h : isP b) : gAI (cC ad cy) (cy 1) (b + 3) 12 := by rcases h with rfl | rfl <;> exact fun r => rfl
theorem lC_f_pla (h : isP b) : gFR (cC ad cy) ad b 0 3 (b + 4) := by rcases h with rfl | rfl <;> exact fun r => ⟨_, rfl, rfl⟩
theorem lC_pla (h : isP b) : gAI (cC ad cy) (cy 1) (b + 4) 12 := by rcases h with rfl | rfl <;> exact fun r => rfl
theorem lC_P (h : isP b) : gOb (cC ad cy) b 0 := by rcases h with rfl | rfl <;> exact fun r => ⟨_, rfl⟩
theorem lC_O : gOb (cC ad cy) 0 3 := fun r => ⟨_, rfl⟩
theorem lC_o_pipes : gFR (cC ad cy) ad 0 3 0 1 := fun r => ⟨_, rfl, rfl⟩
theorem lC_o_trial : gFR (cC ad cy) ad 0 3 1 6 := fun r => ⟨_, rfl, rfl⟩
theorem lC_o_tunes : gFR (cC ad cy) ad 0 3 2 11 := fun r => ⟨_, rfl, rfl⟩
theorem lC_o_streets : gFR (cC ad cy) ad 0 3 3 12 := fun r => ⟨_, rfl, rfl⟩
theorem lC_o_damp : gFR (cC ad cy) ad 0 3 4 13 := fun r => ⟨_, rfl, rfl⟩
theorem lC_o_tuneCount : gFI (cC ad cy) 0 3 5 := fun r => ⟨_, rfl, rfl, Nat.le_of_ble_eq_true rfl, fun v => rfl⟩
theorem lC_o_streetCount : gFI (cC ad cy) 0 3 6 := fun r => ⟨_, rfl, rfl, Nat.le_of_ble_eq_true rfl, fun v => rfl⟩
theorem lC_o_day : gFI (cC ad cy) 0 3 7 := fun r => ⟨_, rfl, rfl, Nat.le_of_ble_eq_true rfl, fun v => rfl⟩
theorem lC_o_coins : gFI (cC ad cy) 0 3 8 := fun r => ⟨_, rfl, rfl, Nat.le_of_ble_eq_true rfl, fun v => rfl⟩
theorem lC_o_fines : gFI (cC ad cy) 0 3 9 := fun r => ⟨_, rfl, rfl, Nat.le_of_ble_eq_true rfl, fun v => rfl⟩
theorem lC_tunes : gAR (cC ad cy) ad (cy 2) 11 6 (fun i => 14 + 3 * i) := fun r => ⟨_, rfl, fun i _ => rfl⟩
theorem lC_streets : gAR (cC ad cy) ad (cy 3) 12 8 (fun i => 32 + 2 * i) := fun r => ⟨_, rfl, fun i _ => rfl⟩
theorem lC_damp : gAI (cC ad cy) (cy 0) 13 7 := fun r => rfl
theorem lC_T (h : t < 6) : gOb (cC ad cy) (14 + 3 * t) 2 := by rcases (show t = 0 ∨ t = 1 ∨ t = 2 ∨ t = 3 ∨ t = 4 ∨ t = 5 by omega) with rfl | rfl | rfl | rfl | rfl | rfl <;> exact fun r => ⟨_, rfl⟩
theorem lC_f_notes (h : t < 6) : gFR (cC ad cy) ad (14 + 3 * t) 2 0 (15 + 3 * t) := by rcases (show t = 0 ∨ t = 1 ∨ t = 2 ∨ t = 3 ∨ t = 4 ∨ t = 5 by omega) with rfl | rfl | rfl | rfl | rfl | rfl <;> exact fun r => ⟨_, rfl, rfl⟩
theorem lC_f_times (h : t < 6) : gFR (cC ad cy) ad (14 + 3 * t) 2 1 (16 + 3 * t) := by rcases (show t = 0 ∨ t = 1 ∨ t = 2 ∨ t = 3 ∨ t = 4 ∨ t = 5 by omega) with rfl | rfl | rfl | rfl | rfl | rfl <;> exact fun r => ⟨_, rfl, rfl⟩
theorem lC_f_length (h : t < 6) : gFI (cC ad cy) (14 + 3 * t) 2 2 := by rcases (show t = 0 ∨ t = 1 ∨ t = 2 ∨ t = 3 ∨ t = 4 ∨ t = 5 by omega) with rfl | rfl | rfl | rfl | rfl | rfl <;> exact fun r => ⟨_, rfl, rfl, Nat.le_of_ble_eq_true rfl, fun v => rfl⟩
theorem lC_notes (h : t < 6) : gAI (cC ad cy) (cy 0) (15 + 3 * t) 16 := by rcases (show t = 0 ∨ t = 1 ∨ t = 2 ∨ t = 3 ∨ t = 4 ∨ t = 5 by omega) with rfl | rfl | rfl | rfl | rfl | rfl <;> exact fun r => rfl
theorem lC_times (h : t < 6) : gAI (cC ad cy) (cy 0) (16 + 3 * t) 12 := by rcases (show t = 0 ∨ t = 1 ∨ t = 2 ∨ t = 3 ∨ t = 4 ∨ t = 5 by omega) with rfl | rfl | rfl | rfl | rfl | rfl <;> exact fun r => rfl
theorem lC_S (h : t < 8) : gOb (cC ad cy) (32 + 2 * t) 1 := by rcases (show t = 0 ∨ t = 1 ∨ t = 2 ∨ t = 3 ∨ t = 4 ∨ t = 5 ∨ t = 6 ∨ t = 7 by omega) with rfl | rfl | rfl | rfl | rfl | rfl | rfl | rfl <;> exact fun r => ⟨_, rfl⟩
theorem lC_f_heard (h : t < 8) : gFR (cC ad cy) ad (32 + 2 * t) 1 0 (33 + 2 * t) := by rcases (show t = 0 ∨ t = 1 ∨ t = 2 ∨ t = 3 ∨ t = 4 ∨ t = 5 ∨ t = 6 ∨ t = 7 by omega) with rfl | rfl | rfl | rfl | rfl | rfl | rfl | rfl <;> exact fun r => ⟨_, rfl, rfl⟩
theorem lC_f_listeners (h : t < 8) : gFI (cC ad cy) (32 + 2 * t) 1 1 := by rcases (show t = 0 ∨ t = 1 ∨ t = 2 ∨ t = 3 ∨ t = 4 ∨ t = 5 ∨ t = 6 ∨ t = 7 by omega) with rfl | rfl | rfl | rfl | rfl | rfl | rfl | rfl <;> exact fun r => ⟨_, rfl, rfl, Nat.le_of_ble_eq_true rfl, fun v => rfl⟩
theorem lC_f_permits (h : t < 8) : gFI (cC ad cy) (32 + 2 * t) 1 2 := by rcases (show t = 0 ∨ t = 1 ∨ t = 2 ∨ t = 3 ∨ t = 4 ∨ t = 5 ∨ t = 6 ∨ t = 7 by omega) with rfl | rfl | rfl | rfl | rfl | rfl | rfl | rfl <;> exact fun r => ⟨_, rfl, rfl, Nat.le_of_ble_eq_true rfl, fun v => rfl⟩
theorem lC_f_paid (h : t < 8) : gFI (cC ad cy) (32 + 2 * t) 1 3 := by rcases (show t = 0 ∨ t = 1 ∨ t = 2 ∨ t = 3 ∨ t = 4 ∨ t = 5 ∨ t = 6 ∨ t = 7 by omega) with rfl | rfl | rfl | rfl | rfl | rfl | rfl | rfl <;> exact fun r => ⟨_, rfl, rfl, Nat.le_of_ble_eq_true rfl, fun v => rfl⟩
theorem lC_heard (h : t < 8) : gAI (cC ad cy) (cy 0) (33 + 2 * t) 6 := by rcases (show t = 0 ∨ t = 1 ∨ t = 2 ∨ t = 3 ∨ t = 4 ∨ t = 5 ∨ t = 6 ∨ t = 7 by omega) with rfl | rfl | rfl | rfl | rfl | rfl | rfl | rfl <;> exact fun r => rfl
end LC
