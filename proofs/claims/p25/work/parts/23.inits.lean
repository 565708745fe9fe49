theorem ko_X0 : Cond.methodLink RX0 3 objectInit ∈ wAll := kAll 37 (by decide +kernel) (by decide +kernel)
theorem ko_i : Cond.instanceMethod objectInit ∈ wAll := kAll 30 (by decide +kernel) (by decide +kernel)
theorem ko_c : Cond.code objectInit ⟨#[0xb1]⟩ 1 none ∈ wAll := kAll 31 (by decide +kernel) (by decide +kernel)
theorem ka_int : Cond.arrayClass .int ∈ wAll := kAll 53 (by decide +kernel) (by decide +kernel)
theorem kg_X0_9 : Cond.fieldLink RX0 9 (TX0 0).1 (TX0 0).2.1 (TX0 0).2.2.1 ∈ wAll := kAll 38 (by decide +kernel) (by decide +kernel)
theorem kg_X0_15 : Cond.fieldLink RX0 15 (TX0 1).1 (TX0 1).2.1 (TX0 1).2.2.1 ∈ wAll := kAll 40 (by decide +kernel) (by decide +kernel)
theorem ka_bool : Cond.arrayClass .boolean ∈ wAll := kAll 54 (by decide +kernel) (by decide +kernel)
theorem kg_X0_18 : Cond.fieldLink RX0 18 (TX0 2).1 (TX0 2).2.1 (TX0 2).2.2.1 ∈ wAll := kAll 42 (by decide +kernel) (by decide +kernel)
theorem kg_X0_22 : Cond.fieldLink RX0 22 (TX0 3).1 (TX0 3).2.1 (TX0 3).2.2.1 ∈ wAll := kAll 43 (by decide +kernel) (by decide +kernel)
theorem ko_X1 : Cond.methodLink RX1 3 objectInit ∈ wAll := kAll 80 (by decide +kernel) (by decide +kernel)
theorem kg_X1_9 : Cond.fieldLink RX1 9 (TX1 0).1 (TX1 0).2.1 (TX1 0).2.2.1 ∈ wAll := kAll 81 (by decide +kernel) (by decide +kernel)
theorem ko_X2 : Cond.methodLink RX2 3 objectInit ∈ wAll := kAll 61 (by decide +kernel) (by decide +kernel)
theorem kg_X2_9 : Cond.fieldLink RX2 9 (TX2 0).1 (TX2 0).2.1 (TX2 0).2.2.1 ∈ wAll := kAll 62 (by decide +kernel) (by decide +kernel)
theorem kg_X2_15 : Cond.fieldLink RX2 15 (TX2 1).1 (TX2 1).2.1 (TX2 1).2.2.1 ∈ wAll := kAll 64 (by decide +kernel) (by decide +kernel)
theorem kg_X3_21 : Cond.fieldLink RX3 21 (TX3 2).1 (TX3 2).2.1 (TX3 2).2.2.1 ∈ wAll := kAll 100 (by decide +kernel) (by decide +kernel)
theorem kC_X3_19 : Cond.classLink RX3 19 RX2 ∈ wAll := kAll 55 (by decide +kernel) (by decide +kernel)
theorem kN_X2 : Cond.instantiable RX2 3 ∈ wAll := kAll 57 (by decide +kernel) (by decide +kernel)
theorem kj_X2_init : Cond.instanceMethod yX2_init ∈ wAll := kAll 59 (by decide +kernel) (by decide +kernel)
theorem kc_X2_init : Cond.code yX2_init cX2_init 1 none ∈ wAll := kAll 60 (by decide +kernel) (by decide +kernel)
theorem kM_X3_25 : Cond.methodLinkNest RX3 25 yX2_init RX3 ∈ gNsw := by decide +kernel
theorem kg_X3_28 : Cond.fieldLink RX3 28 (TX3 3).1 (TX3 3).2.1 (TX3 3).2.2.1 ∈ wAll := kAll 101 (by decide +kernel) (by decide +kernel)
theorem kC_X3_26 : Cond.classLink RX3 26 RX1 ∈ wAll := kAll 74 (by decide +kernel) (by decide +kernel)
theorem kN_X1 : Cond.instantiable RX1 4 ∈ wAll := kAll 76 (by decide +kernel) (by decide +kernel)
theorem kj_X1_init : Cond.instanceMethod yX1_init ∈ wAll := kAll 78 (by decide +kernel) (by decide +kernel)
theorem kc_X1_init : Cond.code yX1_init cX1_init 1 none ∈ wAll := kAll 79 (by decide +kernel) (by decide +kernel)
theorem kM_X3_32 : Cond.methodLinkNest RX3 32 yX1_init RX3 ∈ gNsw := by decide +kernel
theorem ko_X3 : Cond.methodLink RX3 1 objectInit ∈ wAll := kAll 29 (by decide +kernel) (by decide +kernel)
theorem kC_X3_7 : Cond.classLink RX3 7 RX0 ∈ wAll := kAll 32 (by decide +kernel) (by decide +kernel)
theorem kN_X0 : Cond.instantiable RX0 4 ∈ wAll := kAll 33 (by decide +kernel) (by decide +kernel)
theorem kj_X0_init : Cond.instanceMethod yX0_init ∈ wAll := kAll 35 (by decide +kernel) (by decide +kernel)
theorem kc_X0_init : Cond.code yX0_init cX0_init 1 none ∈ wAll := kAll 36 (by decide +kernel) (by decide +kernel)
theorem kM_X3_9 : Cond.methodLinkNest RX3 9 yX0_init RX3 ∈ gNsw := by decide +kernel
theorem kg_X3_10 : Cond.fieldLink RX3 10 (TX3 0).1 (TX3 0).2.1 (TX3 0).2.2.1 ∈ wAll := kAll 98 (by decide +kernel) (by decide +kernel)
theorem kg_X3_16 : Cond.fieldLink RX3 16 (TX3 1).1 (TX3 1).2.1 (TX3 1).2.2.1 ∈ wAll := kAll 99 (by decide +kernel) (by decide +kernel)
theorem kg_X3_33 : Cond.fieldLink RX3 33 (TX3 4).1 (TX3 4).2.1 (TX3 4).2.2.1 ∈ wAll := kAll 102 (by decide +kernel) (by decide +kernel)
theorem kg_X3_37 : Cond.fieldLink RX3 37 (TX3 8).1 (TX3 8).2.1 (TX3 8).2.2.1 ∈ wAll := kAll 106 (by decide +kernel) (by decide +kernel)
/-! The constructors -/
def czX0 (u : Nat → Nat) (cy : Nat → ClassId) (k : Nat) : va_E := if k = 0 then .inr (0, [.ref (u 1), .ref (u 2), .ref (u 3), .ref (u 4)]) else if k < 3 then .inl (cy 0, 12, .inl gZr) else .inl (cy 1, 12, .inl gZr)
def czX1 (u : Nat → Nat) (cy : Nat → ClassId) (k : Nat) : va_E := if k = 0 then .inr (1, [.ref (u 1), .int 0, .int 0, .int 0]) else .inl (cy 0, 6, .inl gZr)
def czX2 (u : Nat → Nat) (cy : Nat → ClassId) (k : Nat) : va_E := if k = 0 then .inr (2, [.ref (u 1), .ref (u 2), .int 0]) else if k = 1 then .inl (cy 0, 16, .inl gZr) else .inl (cy 0, 12, .inl gZr)
/-- the first rows of the class's cells -/
def i0C (k : Nat) : Nat → Int32 := if k = 0 then (fun j => if j = 8 then 20 else 0) else gZr
theorem czX0_cg {u u' : Nat → Nat} {cy : Nat → ClassId} {k : Nat} (h : ∀ j, j < 5 → u j = u' j) : czX0 u cy k = czX0 u' cy k := by
  unfold czX0
  rw [h 1 (by omega), h 2 (by omega), h 3 (by omega), h 4 (by omega)]
theorem czX1_cg {u u' : Nat → Nat} {cy : Nat → ClassId} {k : Nat} (h : ∀ j, j < 2 → u j = u' j) : czX1 u cy k = czX1 u' cy k := by
  unfold czX1
  rw [h 1 (by omega)]
theorem czX2_cg {u u' : Nat → Nat} {cy : Nat → ClassId} {k : Nat} (h : ∀ j, j < 3 → u j = u' j) : czX2 u cy k = czX2 u' cy k := by
  unfold czX2
  rw [h 1 (by omega), h 2 (by omega)]
set_option maxRecDepth 4000 in
theorem c_X0_init (l : Launch) (D : va_G) (cy : Nat → ClassId) : gMC l yX0_init cX0_init 1 { frames := 1, cells := 4, slots := 48, locals := 20 } D cy 0 [.null, .null, .null, .null] 5 (fun u => czX0 u cy) 4 48 [] := by
  refine gMC_of RX0 rfl (by decide +kernel) (Nat.le_of_ble_eq_true rfl) (fun p e s m args below meth c A q hA X hr hlk hnm hZ => ?_)
  refine g_aload_n X dX0_init_0 0 rfl rfl ?_
  refine g_obj X ko_X0 ko_i ko_c ⟨Nat.le_of_ble_eq_true rfl, Nat.le_of_ble_eq_true rfl⟩ dX0_init_1 ?_
  refine g_aload_n X dX0_init_4 0 rfl rfl ?_
  refine g_bipush X (v := nI 12) dX0_init_5 (by decide) ?_
  refine gE_newi X 12 (by omega) ka_int ⟨Nat.le_of_ble_eq_true rfl, Nat.le_of_ble_eq_true rfl⟩ dX0_init_7 (fun q1 => ?_)
  refine gE_putF X 0 (by omega) ku_X0 tyX0 tyX0_ok nmX0 (fs := _) rfl kv_X0 0 (by omega) kg_X0_9 rfl hnm rfl (ty := .array .int) (by decide +kernel) rfl rfl (Nat.le_of_ble_eq_true rfl) dX0_init_9 ?_
  refine g_aload_n X dX0_init_12 0 rfl rfl ?_
  refine g_bipush X (v := nI 12) dX0_init_13 (by decide) ?_
  refine gE_newi X 12 (by omega) ka_int ⟨Nat.le_of_ble_eq_true rfl, Nat.le_of_ble_eq_true rfl⟩ dX0_init_15 (fun q2 => ?_)
  refine gE_putF X 0 (by omega) ku_X0 tyX0 tyX0_ok nmX0 (fs := _) rfl kv_X0 1 (by omega) kg_X0_15 rfl hnm rfl (ty := .array .int) (by decide +kernel) rfl rfl (Nat.le_of_ble_eq_true rfl) dX0_init_17 ?_
  refine g_aload_n X dX0_init_20 0 rfl rfl ?_
  refine g_bipush X (v := nI 12) dX0_init_21 (by decide) ?_
  refine gE_newz X 12 (by omega) ka_bool ⟨Nat.le_of_ble_eq_true rfl, Nat.le_of_ble_eq_true rfl⟩ dX0_init_23 (fun q3 => ?_)
  refine gE_putF X 0 (by omega) ku_X0 tyX0 tyX0_ok nmX0 (fs := _) rfl kv_X0 2 (by omega) kg_X0_18 rfl hnm rfl (ty := .array .boolean) (by decide +kernel) rfl rfl (Nat.le_of_ble_eq_true rfl) dX0_init_25 ?_
  refine g_aload_n X dX0_init_28 0 rfl rfl ?_
  refine g_bipush X (v := nI 12) dX0_init_29 (by decide) ?_
  refine gE_newz X 12 (by omega) ka_bool ⟨Nat.le_of_ble_eq_true rfl, Nat.le_of_ble_eq_true rfl⟩ dX0_init_31 (fun q4 => ?_)
  refine gE_putF X 0 (by omega) ku_X0 tyX0 tyX0_ok nmX0 (fs := _) rfl kv_X0 3 (by omega) kg_X0_22 rfl hnm rfl (ty := .array .boolean) (by decide +kernel) rfl rfl (Nat.le_of_ble_eq_true rfl) dX0_init_33 ?_
  exact gE_ret X hr hlk q hA (xAd (xAd (xAd (xAd (fun _ => q) 1 q1) 2 q2) 3 q3) 4 q4) rfl 5 (fun k => k) (fun k hk => by rcases (show k = 0 ∨ k = 1 ∨ k = 2 ∨ k = 3 ∨ k = 4 by omega) with rfl | rfl | rfl | rfl | rfl <;> exact ⟨Nat.le_of_ble_eq_true rfl, rfl, Or.inl rfl⟩) (fun i j _ _ h => h) (Nat.le_of_ble_eq_true rfl) (Nat.le_of_ble_eq_true rfl) dX0_init_36
set_option maxRecDepth 4000 in
theorem c_X1_init (l : Launch) (D : va_G) (cy : Nat → ClassId) : gMC l yX1_init cX1_init 1 { frames := 1, cells := 1, slots := 6, locals := 20 } D cy 1 [.null, .int 0, .int 0, .int 0] 2 (fun u => czX1 u cy) 1 6 [] := by
  refine gMC_of RX1 rfl (by decide +kernel) (Nat.le_of_ble_eq_true rfl) (fun p e s m args below meth c A q hA X hr hlk hnm hZ => ?_)
  refine g_aload_n X dX1_init_0 0 rfl rfl ?_
  refine g_obj X ko_X1 ko_i ko_c ⟨Nat.le_of_ble_eq_true rfl, Nat.le_of_ble_eq_true rfl⟩ dX1_init_1 ?_
  refine g_aload_n X dX1_init_4 0 rfl rfl ?_
  refine g_bipush X (v := nI 6) dX1_init_5 (by decide) ?_
  refine gE_newi X 6 (by omega) ka_int ⟨Nat.le_of_ble_eq_true rfl, Nat.le_of_ble_eq_true rfl⟩ dX1_init_7 (fun q1 => ?_)
  refine gE_putF X 0 (by omega) ku_X1 tyX1 tyX1_ok nmX1 (fs := _) rfl kv_X1 0 (by omega) kg_X1_9 rfl hnm rfl (ty := .array .int) (by decide +kernel) rfl rfl (Nat.le_of_ble_eq_true rfl) dX1_init_9 ?_
  exact gE_ret X hr hlk q hA (xAd (fun _ => q) 1 q1) rfl 2 (fun k => k) (fun k hk => by rcases (show k = 0 ∨ k = 1 by omega) with rfl | rfl <;> exact ⟨Nat.le_of_ble_eq_true rfl, rfl, Or.inl rfl⟩) (fun i j _ _ h => h) (Nat.le_of_ble_eq_true rfl) (Nat.le_of_ble_eq_true rfl) dX1_init_12
set_option maxRecDepth 4000 in
theorem c_X2_init (l : Launch) (D : va_G) (cy : Nat → ClassId) : gMC l yX2_init cX2_init 1 { frames := 1, cells := 2, slots := 28, locals := 20 } D cy 2 [.null, .null, .int 0] 3 (fun u => czX2 u cy) 2 28 [] := by
  refine gMC_of RX2 rfl (by decide +kernel) (Nat.le_of_ble_eq_true rfl) (fun p e s m args below meth c A q hA X hr hlk hnm hZ => ?_)
  refine g_aload_n X dX2_init_0 0 rfl rfl ?_
  refine g_obj X ko_X2 ko_i ko_c ⟨Nat.le_of_ble_eq_true rfl, Nat.le_of_ble_eq_true rfl⟩ dX2_init_1 ?_
  refine g_aload_n X dX2_init_4 0 rfl rfl ?_
  refine g_bipush X (v := nI 16) dX2_init_5 (by decide) ?_
  refine gE_newi X 16 (by omega) ka_int ⟨Nat.le_of_ble_eq_true rfl, Nat.le_of_ble_eq_true rfl⟩ dX2_init_7 (fun q1 => ?_)
  refine gE_putF X 0 (by omega) ku_X2 tyX2 tyX2_ok nmX2 (fs := _) rfl kv_X2 0 (by omega) kg_X2_9 rfl hnm rfl (ty := .array .int) (by decide +kernel) rfl rfl (Nat.le_of_ble_eq_true rfl) dX2_init_9 ?_
  refine g_aload_n X dX2_init_12 0 rfl rfl ?_
  refine g_bipush X (v := nI 12) dX2_init_13 (by decide) ?_
  refine gE_newi X 12 (by omega) ka_int ⟨Nat.le_of_ble_eq_true rfl, Nat.le_of_ble_eq_true rfl⟩ dX2_init_15 (fun q2 => ?_)
  refine gE_putF X 0 (by omega) ku_X2 tyX2 tyX2_ok nmX2 (fs := _) rfl kv_X2 1 (by omega) kg_X2_15 rfl hnm rfl (ty := .array .int) (by decide +kernel) rfl rfl (Nat.le_of_ble_eq_true rfl) dX2_init_17 ?_
  exact gE_ret X hr hlk q hA (xAd (xAd (fun _ => q) 1 q1) 2 q2) rfl 3 (fun k => k) (fun k hk => by rcases (show k = 0 ∨ k = 1 ∨ k = 2 by omega) with rfl | rfl | rfl <;> exact ⟨Nat.le_of_ble_eq_true rfl, rfl, Or.inl rfl⟩) (fun i j _ _ h => h) (Nat.le_of_ble_eq_true rfl) (Nat.le_of_ble_eq_true rfl) dX2_init_20
def E1 (a : Nat → Nat) (cy : Nat → ClassId) (i k : Nat) : va_E :=
  if k = 0 then .inr (3, [.ref (a 1), .ref (a 6), .ref (a 11), .null, .null, .int 0, .int 0, .int 0, .int 0, .int 0])
  else if k < 6 then czX0 (fun j => a (1 + j)) cy (k - 1)
  else if k < 11 then czX0 (fun j => a (6 + j)) cy (k - 6)
  else if k = 11 then .inl (cy 2, 6, .inr (.inr (.inr (.inr (fun j => if j < i then some (a (12 + 3 * j)) else none)))))
  else czX2 (fun j => a (12 + 3 * ((k - 12) / 3) + j)) cy ((k - 12) % 3)
theorem E1_cg {a a' : Nat → Nat} {cy : Nat → ClassId} {i i' k : Nat} (h : ∀ j, j < 12 + 3 * i → a' j = a j) (hk : k < 12 + 3 * i) (hk1 : k ≠ 11) : E1 a cy i k = E1 a' cy i' k := by
  unfold E1
  by_cases h0 : k = 0
  · rw [if_pos h0, if_pos h0, h 1 (by omega), h 6 (by omega), h 11 (by omega)]
  · rw [if_neg h0, if_neg h0]
    by_cases h1 : k < 6
    · rw [if_pos h1, if_pos h1]
      exact czX0_cg (fun j hj => (h _ (by omega)).symm)
    · rw [if_neg h1, if_neg h1]
      by_cases h2 : k < 11
      · rw [if_pos h2, if_pos h2]
        exact czX0_cg (fun j hj => (h _ (by omega)).symm)
      · rw [if_neg h2, if_neg h2, if_neg hk1, if_neg hk1]
        exact czX2_cg (fun j hj => (h _ (by omega)).symm)
theorem E1_nx {a u : Nat → Nat} {cy : Nat → ClassId} {i q1 k : Nat} {x : va_E} (hu : u 0 = q1) (hk : k < 12 + 3 * i + 3) : uE (jE (12 + 3 * i) (uE (E1 a cy i) (12 + 3 * i) x) (czX2 u cy)) 11 (.inl (cy 2, 6, .inr (.inr (.inr (.inr (va_up (fun j => if j < i then some (a (12 + 3 * j)) else none) i (some (jA (12 + 3 * i) (xAd a (12 + 3 * i) q1) u (12 + 3 * i))))))))) k = E1 (jA (12 + 3 * i) (xAd a (12 + 3 * i) q1) u) cy (i + 1) k := by
  have ha : ∀ j, j < 12 + 3 * i → jA (12 + 3 * i) (xAd a (12 + 3 * i) q1) u j = a j := fun j hj => by
    simp only [jA, xAd]
    rw [if_pos hj, if_neg (by omega)]
  have hb : ∀ j, jA (12 + 3 * i) (xAd a (12 + 3 * i) q1) u (12 + 3 * i + j) = u j := fun j => by
    simp only [jA]
    rw [if_neg (by omega)]
    congr 1
    omega
  generalize jA (12 + 3 * i) (xAd a (12 + 3 * i) q1) u = a' at ha hb ⊢
  simp only [uE, jE]
  by_cases h11 : k = 11
  · rw [if_pos h11]
    subst h11
    simp only [E1]
    rw [if_neg (by omega), if_neg (by omega), if_neg (by omega), if_pos trivial]
    refine congrArg (fun f : Nat → Option Nat => (.inl (cy 2, 6, .inr (.inr (.inr (.inr f)))) : va_E)) (funext fun j => ?_)
    simp only [va_up]
    by_cases hj : j = i
    · subst hj
      rw [if_pos rfl, if_pos (by omega)]
    · rw [if_neg hj]
      by_cases hj2 : j < i
      · rw [if_pos hj2, if_pos (by omega), ha _ (by omega)]
      · rw [if_neg hj2, if_neg (by omega)]
  · rw [if_neg h11]
    by_cases hk2 : k < 12 + 3 * i
    · rw [if_pos hk2, if_neg (by omega)]
      exact E1_cg ha hk2 h11
    · rw [if_neg hk2]
      simp only [E1]
      rw [if_neg (by omega), if_neg (by omega), if_neg (by omega), if_neg h11, show k - (12 + 3 * i) = (k - 12) % 3 by omega]
      refine czX2_cg (fun j hj => ?_)
      rw [show (k - 12) / 3 = i by omega]
      exact (hb j).symm
def E2 (a : Nat → Nat) (cy : Nat → ClassId) (i k : Nat) : va_E :=
  if k = 0 then .inr (3, [.ref (a 1), .ref (a 6), .ref (a 11), .ref (a 30), .null, .int 0, .int 0, .int 0, .int 0, .int 0])
  else if k < 30 then E1 a cy 6 k
  else if k = 30 then .inl (cy 3, 8, .inr (.inr (.inr (.inr (fun j => if j < i then some (a (31 + 2 * j)) else none)))))
  else czX1 (fun j => a (31 + 2 * ((k - 31) / 2) + j)) cy ((k - 31) % 2)
theorem E1_cg6 {a a' : Nat → Nat} {cy : Nat → ClassId} {k : Nat} (h : ∀ j, j < 30 → a' j = a j) (hk : k < 30) : E1 a cy 6 k = E1 a' cy 6 k := by
  by_cases h11 : k = 11
  · subst h11
    simp only [E1]
    rw [if_neg (by omega), if_neg (by omega), if_neg (by omega), if_pos trivial, if_neg (by omega), if_neg (by omega), if_neg (by omega), if_pos trivial]
    refine congrArg (fun f : Nat → Option Nat => (.inl (cy 2, 6, .inr (.inr (.inr (.inr f)))) : va_E)) (funext fun j => ?_)
    by_cases hj : j < 6
    · rw [if_pos hj, if_pos hj, h _ (by omega)]
    · rw [if_neg hj, if_neg hj]
  · exact E1_cg h hk h11
theorem E2_nx {a u : Nat → Nat} {cy : Nat → ClassId} {i q1 k : Nat} {x : va_E} (hu : u 0 = q1) (hk : k < 31 + 2 * i + 2) : uE (jE (31 + 2 * i) (uE (E2 a cy i) (31 + 2 * i) x) (czX1 u cy)) 30 (.inl (cy 3, 8, .inr (.inr (.inr (.inr (va_up (fun j => if j < i then some (a (31 + 2 * j)) else none) i (some (jA (31 + 2 * i) (xAd a (31 + 2 * i) q1) u (31 + 2 * i))))))))) k = E2 (jA (31 + 2 * i) (xAd a (31 + 2 * i) q1) u) cy (i + 1) k := by
  have ha : ∀ j, j < 31 + 2 * i → jA (31 + 2 * i) (xAd a (31 + 2 * i) q1) u j = a j := fun j hj => by
    simp only [jA, xAd]
    rw [if_pos hj, if_neg (by omega)]
  have hb : ∀ j, jA (31 + 2 * i) (xAd a (31 + 2 * i) q1) u (31 + 2 * i + j) = u j := fun j => by
    simp only [jA]
    rw [if_neg (by omega)]
    congr 1
    omega
  generalize jA (31 + 2 * i) (xAd a (31 + 2 * i) q1) u = a' at ha hb ⊢
  simp only [uE, jE]
  by_cases h11 : k = 30
  · rw [if_pos h11]
    subst h11
    simp only [E2]
    rw [if_neg (by omega), if_neg (by omega), if_pos trivial]
    refine congrArg (fun f : Nat → Option Nat => (.inl (cy 3, 8, .inr (.inr (.inr (.inr f)))) : va_E)) (funext fun j => ?_)
    simp only [va_up]
    by_cases hj : j = i
    · subst hj
      rw [if_pos rfl, if_pos (by omega)]
    · rw [if_neg hj]
      by_cases hj2 : j < i
      · rw [if_pos hj2, if_pos (by omega), ha _ (by omega)]
      · rw [if_neg hj2, if_neg (by omega)]
  · rw [if_neg h11]
    by_cases hk2 : k < 31 + 2 * i
    · rw [if_pos hk2, if_neg (by omega)]
      simp only [E2]
      by_cases h0 : k = 0
      · rw [if_pos h0, if_pos h0, ha 1 (by omega), ha 6 (by omega), ha 11 (by omega), ha 30 (by omega)]
      · rw [if_neg h0, if_neg h0]
        by_cases h1 : k < 30
        · rw [if_pos h1, if_pos h1]
          exact E1_cg6 (fun j hj => ha j (by omega)) h1
        · rw [if_neg h1, if_neg h1, if_neg h11, if_neg h11]
          exact czX1_cg (fun j hj => (ha _ (by omega)).symm)
    · rw [if_neg hk2]
      simp only [E2]
      rw [if_neg (by omega), if_neg (by omega), if_neg h11, show k - (31 + 2 * i) = (k - 31) % 2 by omega]
      refine czX1_cg (fun j hj => ?_)
      rw [show (k - 31) / 2 = i by omega]
      exact (hb j).symm
theorem x3_l1 {p : Program} {l : Launch} {e : Env} {s : State} {m : MethodId} {args : Array Value} {below : List Frame} {meth : Method} {c : Code} {Q : State → Prop} {Ts : List Cond} {D : va_G} {cy : Nat → ClassId} {A : Nat → Prop} {q : Nat} (X : gX p m c cX3_init 2 s args Ts RX3 D cy A) (hnm : meth.name = yX3_init.name)
    (kk : ∀ a : Nat → Nat, a 0 = q → GW p l e { frames := 2, cells := 47, slots := 391, locals := 60 } s m args below meth c Q 2 D A (12 + 3 * 6) a (cE (E1 a cy 6)) z0 (11 + 3 * 6) (110 + 31 * 6) 62 [(1, .int (nI 6)), (0, .ref q)] []) : ∀ f i : Nat, i + f = 6 → ∀ a : Nat → Nat, a 0 = q → GW p l e { frames := 2, cells := 47, slots := 391, locals := 60 } s m args below meth c Q 2 D A (12 + 3 * i) a (cE (E1 a cy i)) z0 (11 + 3 * i) (110 + 31 * i) 37 [(1, .int (nI i)), (0, .ref q)] [] := by
  intro f
  induction f with
  | zero =>
    intro i hi a h0
    obtain rfl : i = 6 := by omega
    refine g_iload_n X dX3_init_37 0 rfl rfl ?_
    refine g_bipush X (v := nI 6) dX3_init_38 (by decide) ?_
    refine g_icmp_geN X 6 6 62 (by omega) (by omega) dX3_init_40 (by decide) (fun _ => ?_) (fun h => ?_)
    · exact kk a h0
    · omega
  | succ f ih =>
    intro i hi a h0
    refine g_iload_n X dX3_init_37 0 rfl rfl ?_
    refine g_bipush X (v := nI 6) dX3_init_38 (by decide) ?_
    refine g_icmp_geN X i 6 62 (by omega) (by omega) dX3_init_40 (by decide) (fun h => ?_) (fun h => ?_)
    · omega
    refine g_aload_n X dX3_init_43 1 rfl rfl ?_
    rw [← h0]
    refine g_getr X 0 (by omega) 2 (by decide) ku_X3 kv_X3 kf_X3_21 rfl (k2 := 11) (fun r => ⟨_, rfl, rfl⟩) dX3_init_44 ?_
    rw [h0]
    refine g_iload_n X dX3_init_47 0 rfl rfl ?_
    refine gE_new X ku_X2 tyX2 tyX2_ok kC_X3_19 kN_X2 ki_X2 kv_X2 [.null, .null, .int 0] (fun j hj => by rcases (show j = 0 ∨ j = 1 ∨ j = 2 by omega) with rfl | rfl | rfl <;> rfl) ⟨by show 11 + 3 * i + 1 ≤ 47; omega, by show 110 + 31 * i + 3 ≤ 391; omega⟩ dX3_init_48 (fun q1 => ?_)
    refine g_dup X dX3_init_51 rfl ?_
    refine gE_ctorN X rfl (c_X2_init l D cy) (fun _ h => by cases h) kM_X3_25 rfl kj_X2_init ki_X2 kc_X2_init (by decide +kernel) ⟨rfl, rfl, Nat.le_of_ble_eq_true rfl, Nat.le_of_ble_eq_true rfl⟩ (by simp [uE]) (Nat.le_of_ble_eq_true rfl) dX3_init_52 ⟨by show 11 + 3 * i + 1 + 2 ≤ 47; omega, by show 110 + 31 * i + 3 + 28 ≤ 391; omega⟩ (fun u hu => ?_)
    have hq1 : u 0 = q1 := by rw [hu]; simp [xAd]
    have e1 : jA (12 + 3 * i) (xAd a (12 + 3 * i) q1) u (12 + 3 * i) = xAd a (12 + 3 * i) q1 (12 + 3 * i) := by simp [jA, xAd, hq1]
    have e2 : jA (12 + 3 * i) (xAd a (12 + 3 * i) q1) u 11 = a 11 := by
      simp only [jA, xAd]
      rw [if_pos (by omega), if_neg (by omega)]
    rw [← e1, ← e2]
    refine gE_ast X 2 11 (12 + 3 * i) i 6 (by omega) (by omega) (f := fun j => if j < i then some (a (12 + 3 * j)) else none) (by simp only [jE, uE]; rw [if_pos (by omega), if_neg (by omega)]; rfl) (by simp only [jE]; rw [if_neg (by omega), Nat.sub_self]; rfl) kv_X2 rfl (by omega) (by omega) dX3_init_55 ?_
    refine g_iinc X (nI (i + 1)) [(1, .int (nI (i + 1))), (0, .ref q)] 0 dX3_init_56 rfl (nI_1 i) (by omega) rfl ?_
    refine g_goto X 37 dX3_init_59 (by decide) ?_
    refine gE_cg (fun k hk => ⟨rfl, E1_nx hq1 hk⟩) ?_
    have := ih (i + 1) (by omega) (jA (12 + 3 * i) (xAd a (12 + 3 * i) q1) u) (by simp only [jA, xAd]; rw [if_pos (by omega), if_neg (by omega)]; exact h0)
    exact this
theorem x3_l2 {p : Program} {l : Launch} {e : Env} {s : State} {m : MethodId} {args : Array Value} {below : List Frame} {meth : Method} {c : Code} {Q : State → Prop} {Ts : List Cond} {D : va_G} {cy : Nat → ClassId} {A : Nat → Prop} {q : Nat} (X : gX p m c cX3_init 2 s args Ts RX3 D cy A) (hnm : meth.name = yX3_init.name)
    (kk : ∀ a : Nat → Nat, a 0 = q → GW p l e { frames := 2, cells := 47, slots := 391, locals := 60 } s m args below meth c Q 2 D A (31 + 2 * 8) a (cE (E2 a cy 8)) z0 (30 + 2 * 8) (304 + 10 * 8) 98 [(1, .int (nI 8)), (0, .ref q)] []) : ∀ f i : Nat, i + f = 8 → ∀ a : Nat → Nat, a 0 = q → GW p l e { frames := 2, cells := 47, slots := 391, locals := 60 } s m args below meth c Q 2 D A (31 + 2 * i) a (cE (E2 a cy i)) z0 (30 + 2 * i) (304 + 10 * i) 73 [(1, .int (nI i)), (0, .ref q)] [] := by
  intro f
  induction f with
  | zero =>
    intro i hi a h0
    obtain rfl : i = 8 := by omega
    refine g_iload_n X dX3_init_73 0 rfl rfl ?_
    refine g_bipush X (v := nI 8) dX3_init_74 (by decide) ?_
    refine g_icmp_geN X 8 8 98 (by omega) (by omega) dX3_init_76 (by decide) (fun _ => ?_) (fun h => ?_)
    · exact kk a h0
    · omega
  | succ f ih =>
    intro i hi a h0
    refine g_iload_n X dX3_init_73 0 rfl rfl ?_
    refine g_bipush X (v := nI 8) dX3_init_74 (by decide) ?_
    refine g_icmp_geN X i 8 98 (by omega) (by omega) dX3_init_76 (by decide) (fun h => ?_) (fun h => ?_)
    · omega
    refine g_aload_n X dX3_init_79 1 rfl rfl ?_
    rw [← h0]
    refine g_getr X 0 (by omega) 3 (by decide) ku_X3 kv_X3 kf_X3_28 rfl (k2 := 30) (fun r => ⟨_, rfl, rfl⟩) dX3_init_80 ?_
    rw [h0]
    refine g_iload_n X dX3_init_83 0 rfl rfl ?_
    refine gE_new X ku_X1 tyX1 tyX1_ok kC_X3_26 kN_X1 ki_X1 kv_X1 [.null, .int 0, .int 0, .int 0] (fun j hj => by rcases (show j = 0 ∨ j = 1 ∨ j = 2 ∨ j = 3 by omega) with rfl | rfl | rfl | rfl <;> rfl) ⟨by show 30 + 2 * i + 1 ≤ 47; omega, by show 304 + 10 * i + 4 ≤ 391; omega⟩ dX3_init_84 (fun q1 => ?_)
    refine g_dup X dX3_init_87 rfl ?_
    refine gE_ctorN X rfl (c_X1_init l D cy) (fun _ h => by cases h) kM_X3_32 rfl kj_X1_init ki_X1 kc_X1_init (by decide +kernel) ⟨rfl, rfl, Nat.le_of_ble_eq_true rfl, Nat.le_of_ble_eq_true rfl⟩ (by simp [uE]) (Nat.le_of_ble_eq_true rfl) dX3_init_88 ⟨by show 30 + 2 * i + 1 + 1 ≤ 47; omega, by show 304 + 10 * i + 4 + 6 ≤ 391; omega⟩ (fun u hu => ?_)
    have hq1 : u 0 = q1 := by rw [hu]; simp [xAd]
    have e1 : jA (31 + 2 * i) (xAd a (31 + 2 * i) q1) u (31 + 2 * i) = xAd a (31 + 2 * i) q1 (31 + 2 * i) := by simp [jA, xAd, hq1]
    have e2 : jA (31 + 2 * i) (xAd a (31 + 2 * i) q1) u 30 = a 30 := by
      simp only [jA, xAd]
      rw [if_pos (by omega), if_neg (by omega)]
    rw [← e1, ← e2]
    refine gE_ast X 3 30 (31 + 2 * i) i 8 (by omega) (by omega) (f := fun j => if j < i then some (a (31 + 2 * j)) else none) (by simp only [jE, uE]; rw [if_pos (by omega), if_neg (by omega)]; rfl) (by simp only [jE]; rw [if_neg (by omega), Nat.sub_self]; rfl) kv_X1 rfl (by omega) (by omega) dX3_init_91 ?_
    refine g_iinc X (nI (i + 1)) [(1, .int (nI (i + 1))), (0, .ref q)] 0 dX3_init_92 rfl (nI_1 i) (by omega) rfl ?_
    refine g_goto X 73 dX3_init_95 (by decide) ?_
    refine gE_cg (fun k hk => ⟨rfl, E2_nx hq1 hk⟩) ?_
    have := ih (i + 1) (by omega) (jA (31 + 2 * i) (xAd a (31 + 2 * i) q1) u) (by simp only [jA, xAd]; rw [if_pos (by omega), if_neg (by omega)]; exact h0)
    exact this
set_option maxRecDepth 4000 in
theorem c_X3_init (l : Launch) (D : va_G) (cy : Nat → ClassId) : gMC l yX3_init cX3_init 2 { frames := 2, cells := 47, slots := 391, locals := 60 } D cy 3 [.null, .null, .null, .null, .null, .int 0, .int 0, .int 0, .int 0, .int 0] 48 (fun u k => cC u cy k (i0C k)) 47 391 [RX2, RX1] := by
  refine gMC_of RX3 rfl (by decide +kernel) (Nat.le_of_ble_eq_true rfl) (fun p e s m args below meth c A q hA X hr hlk hnm hZ => ?_)
  refine g_aload_n X dX3_init_0 0 rfl rfl ?_
  refine g_obj X ko_X3 ko_i ko_c ⟨Nat.le_of_ble_eq_true rfl, Nat.le_of_ble_eq_true rfl⟩ dX3_init_1 ?_
  refine g_aload_n X dX3_init_4 0 rfl rfl ?_
  refine gE_new X ku_X0 tyX0 tyX0_ok kC_X3_7 kN_X0 ki_X0 kv_X0 [.null, .null, .null, .null] (fun j hj => by rcases (show j = 0 ∨ j = 1 ∨ j = 2 ∨ j = 3 by omega) with rfl | rfl | rfl | rfl <;> rfl) ⟨Nat.le_of_ble_eq_true rfl, Nat.le_of_ble_eq_true rfl⟩ dX3_init_5 (fun q1 => ?_)
  refine g_dup X dX3_init_8 rfl ?_
  refine gE_ctorN X rfl (c_X0_init l D cy) (fun _ h => by cases h) kM_X3_9 rfl kj_X0_init ki_X0 kc_X0_init (by decide +kernel) ⟨rfl, rfl, Nat.le_of_ble_eq_true rfl, Nat.le_of_ble_eq_true rfl⟩ rfl (Nat.le_of_ble_eq_true rfl) dX3_init_9 ⟨Nat.le_of_ble_eq_true rfl, Nat.le_of_ble_eq_true rfl⟩ (fun u1 hu1 => ?_)
  rw [← hu1]
  refine gE_putF X 0 (by omega) ku_X3 tyX3 tyX3_ok nmX3 (fs := _) rfl kv_X3 0 (by omega) kg_X3_10 rfl hnm rfl (ty := .object "StreetOrgans$Pipes") (by decide +kernel) rfl rfl (Nat.le_of_ble_eq_true rfl) dX3_init_12 ?_
  refine g_aload_n X dX3_init_15 0 rfl rfl ?_
  refine gE_new X ku_X0 tyX0 tyX0_ok kC_X3_7 kN_X0 ki_X0 kv_X0 [.null, .null, .null, .null] (fun j hj => by rcases (show j = 0 ∨ j = 1 ∨ j = 2 ∨ j = 3 by omega) with rfl | rfl | rfl | rfl <;> rfl) ⟨Nat.le_of_ble_eq_true rfl, Nat.le_of_ble_eq_true rfl⟩ dX3_init_16 (fun q6 => ?_)
  refine g_dup X dX3_init_19 rfl ?_
  refine gE_ctorN X rfl (c_X0_init l D cy) (fun _ h => by cases h) kM_X3_9 rfl kj_X0_init ki_X0 kc_X0_init (by decide +kernel) ⟨rfl, rfl, Nat.le_of_ble_eq_true rfl, Nat.le_of_ble_eq_true rfl⟩ rfl (Nat.le_of_ble_eq_true rfl) dX3_init_20 ⟨Nat.le_of_ble_eq_true rfl, Nat.le_of_ble_eq_true rfl⟩ (fun u6 hu6 => ?_)
  rw [← hu6]
  refine gE_putF X 0 (by omega) ku_X3 tyX3 tyX3_ok nmX3 (fs := _) rfl kv_X3 1 (by omega) kg_X3_16 rfl hnm rfl (ty := .object "StreetOrgans$Pipes") (by decide +kernel) rfl rfl (Nat.le_of_ble_eq_true rfl) dX3_init_23 ?_
  refine g_aload_n X dX3_init_26 0 rfl rfl ?_
  refine g_bipush X (v := nI 6) dX3_init_27 (by decide) ?_
  refine gE_nq X 2 6 (by omega) kC_X3_19 (hZ RX2 (by decide)) rfl ⟨Nat.le_of_ble_eq_true rfl, Nat.le_of_ble_eq_true rfl⟩ dX3_init_29 (fun q11 => ?_)
  refine gE_putF X 0 (by omega) ku_X3 tyX3 tyX3_ok nmX3 (fs := _) rfl kv_X3 2 (by omega) kg_X3_21 rfl hnm rfl (ty := .array (.object "StreetOrgans$Tune")) (by decide +kernel) rfl rfl (Nat.le_of_ble_eq_true rfl) dX3_init_32 ?_
  refine g_iconst X (v := nI 0) dX3_init_35 (by decide) ?_
  refine g_istore_n X [(1, .int (nI 0)), (0, .ref q)] dX3_init_36 rfl (by omega) rfl ?_
  refine gE_cg (ad' := (xAd (jA 6 (xAd (jA 1 (xAd (fun _ => q) 1 q1) u1) 6 q6) u6) 11 q11)) (E' := E1 (xAd (jA 6 (xAd (jA 1 (xAd (fun _ => q) 1 q1) u1) 6 q6) u6) 11 q11) cy 0) (fun k hk => ⟨rfl, ?_⟩) ?_
  · rcases (show k = 0 ∨ k = 1 ∨ k = 2 ∨ k = 3 ∨ k = 4 ∨ k = 5 ∨ k = 6 ∨ k = 7 ∨ k = 8 ∨ k = 9 ∨ k = 10 ∨ k = 11 by omega) with rfl | rfl | rfl | rfl | rfl | rfl | rfl | rfl | rfl | rfl | rfl | rfl <;> rfl
  refine x3_l1 X hnm (fun a h0 => ?_) 6 0 rfl _ rfl
  refine g_aload_n X dX3_init_62 1 rfl rfl ?_
  refine g_bipush X (v := nI 8) dX3_init_63 (by decide) ?_
  refine gE_nq X 3 8 (by omega) kC_X3_26 (hZ RX1 (by decide)) rfl ⟨Nat.le_of_ble_eq_true rfl, Nat.le_of_ble_eq_true rfl⟩ dX3_init_65 (fun q30 => ?_)
  have h0b : xAd a 30 q30 0 = q := h0
  rw [← h0b]
  refine gE_putF X 0 (by omega) ku_X3 tyX3 tyX3_ok nmX3 (fs := _) rfl kv_X3 3 (by omega) kg_X3_28 rfl hnm rfl (ty := .array (.object "StreetOrgans$Street")) (by decide +kernel) rfl rfl (Nat.le_of_ble_eq_true rfl) dX3_init_68 ?_
  rw [h0b]
  refine g_iconst X (v := nI 0) dX3_init_71 (by decide) ?_
  refine g_istore_n X [(1, .int (nI 0)), (0, .ref q)] dX3_init_72 rfl (by omega) rfl ?_
  refine gE_cg (ad' := xAd a 30 q30) (E' := E2 (xAd a 30 q30) cy 0) (fun k hk => ⟨rfl, ?_⟩) ?_
  · have hk : k < 31 := hk
    by_cases h30 : k = 30
    · subst h30; rfl
    · by_cases hk0 : k = 0
      · subst hk0; rfl
      · simp only [uE, E2]
        rw [if_neg hk0, if_neg h30, if_neg hk0, if_pos (by omega)]
        exact E1_cg6 (fun j hj => by simp only [xAd]; rw [if_neg (by omega)]) (by omega)
  refine x3_l2 X hnm (fun a h0 => ?_) 8 0 rfl _ h0b
  refine g_aload_n X dX3_init_98 1 rfl rfl ?_
  refine g_bipush X (v := nI 7) dX3_init_99 (by decide) ?_
  refine gE_newi X 7 (by omega) ka_int ⟨Nat.le_of_ble_eq_true rfl, Nat.le_of_ble_eq_true rfl⟩ dX3_init_101 (fun q47 => ?_)
  have h0c : xAd a 47 q47 0 = q := h0
  rw [← h0c]
  refine gE_putF X 0 (by omega) ku_X3 tyX3 tyX3_ok nmX3 (fs := _) rfl kv_X3 4 (by omega) kg_X3_33 rfl hnm rfl (ty := .array .int) (by decide +kernel) rfl rfl (Nat.le_of_ble_eq_true rfl) dX3_init_103 ?_
  rw [h0c]
  refine g_aload_n X dX3_init_106 1 rfl rfl ?_
  refine g_bipush X (v := nI 20) dX3_init_107 (by decide) ?_
  rw [← h0c]
  refine gE_put X 0 (by omega) ku_X3 tyX3 tyX3_ok nmX3 (fs := _) rfl kv_X3 8 (by omega) kg_X3_37 rfl (ty := .int) (by decide +kernel) rfl rfl (Nat.le_of_ble_eq_true rfl) dX3_init_109 ?_
  rw [h0c]
  have hgi : ∀ i j, i < 48 → j < 48 → (if i ≤ 11 then i else if i = 12 then 30 else if i = 13 then 47 else if i < 32 then i - 2 else i - 1) = (if j ≤ 11 then j else if j = 12 then 30 else if j = 13 then 47 else if j < 32 then j - 2 else j - 1) → i = j := fun i j hi hj h => by
    split at h <;> split at h <;> (try split at h) <;> (try split at h) <;> (try split at h) <;> (try split at h) <;> (try split at h) <;> (try split at h) <;> omega
  refine gE_ret X hr hlk q hA (fun k => xAd a 47 q47 (if k ≤ 11 then k else if k = 12 then 30 else if k = 13 then 47 else if k < 32 then k - 2 else k - 1)) h0c 48 (fun k => if k ≤ 11 then k else if k = 12 then 30 else if k = 13 then 47 else if k < 32 then k - 2 else k - 1) (fun k hk => ⟨?_, rfl, ?_⟩) hgi (by exact Nat.le_of_ble_eq_true rfl) (by exact Nat.le_of_ble_eq_true rfl) dX3_init_112
  · show (if k ≤ 11 then k else if k = 12 then 30 else if k = 13 then 47 else if k < 32 then k - 2 else k - 1) < 48
    split
    · omega
    · split
      · omega
      · split
        · omega
        · split <;> omega
  · by_cases h11 : k = 11
    · subst h11
      refine Or.inr ⟨cy 2, 6, _, _, rfl, rfl, fun j hj => ?_⟩
      rcases (show j = 0 ∨ j = 1 ∨ j = 2 ∨ j = 3 ∨ j = 4 ∨ j = 5 by omega) with rfl | rfl | rfl | rfl | rfl | rfl <;> rfl
    · by_cases h12 : k = 12
      · subst h12
        refine Or.inr ⟨cy 3, 8, _, _, rfl, rfl, fun j hj => ?_⟩
        rcases (show j = 0 ∨ j = 1 ∨ j = 2 ∨ j = 3 ∨ j = 4 ∨ j = 5 ∨ j = 6 ∨ j = 7 by omega) with rfl | rfl | rfl | rfl | rfl | rfl | rfl | rfl <;> rfl
      · refine Or.inl ?_
        rcases (show k = 0 ∨ k = 1 ∨ k = 2 ∨ k = 3 ∨ k = 4 ∨ k = 5 ∨ k = 6 ∨ k = 7 ∨ k = 8 ∨ k = 9 ∨ k = 10 ∨ k = 13 ∨ k = 14 ∨ k = 15 ∨ k = 16 ∨ k = 17 ∨ k = 18 ∨ k = 19 ∨ k = 20 ∨ k = 21 ∨ k = 22 ∨ k = 23 ∨ k = 24 ∨ k = 25 ∨ k = 26 ∨ k = 27 ∨ k = 28 ∨ k = 29 ∨ k = 30 ∨ k = 31 ∨ k = 32 ∨ k = 33 ∨ k = 34 ∨ k = 35 ∨ k = 36 ∨ k = 37 ∨ k = 38 ∨ k = 39 ∨ k = 40 ∨ k = 41 ∨ k = 42 ∨ k = 43 ∨ k = 44 ∨ k = 45 ∨ k = 46 ∨ k = 47 by omega) with rfl | rfl | rfl | rfl | rfl | rfl | rfl | rfl | rfl | rfl | rfl | rfl | rfl | rfl | rfl | rfl | rfl | rfl | rfl | rfl | rfl | rfl | rfl | rfl | rfl | rfl | rfl | rfl | rfl | rfl | rfl | rfl | rfl | rfl | rfl | rfl | rfl | rfl | rfl | rfl | rfl | rfl | rfl | rfl | rfl | rfl <;> rfl
