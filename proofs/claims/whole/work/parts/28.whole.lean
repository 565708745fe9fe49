theorem ka_long : Cond.arrayClass .long ∈ wAll := kAll 811 (by decide +kernel) (by decide +kernel)
theorem kC_L_8 : Cond.classLink RL 8 RX3 ∈ wAll := kAll 35 (by decide +kernel) (by decide +kernel)
theorem kN_X3 : Cond.instantiable RX3 10 ∈ wAll := kAll 36 (by decide +kernel) (by decide +kernel)
theorem kj_X3_init : Cond.instanceMethod yX3_init ∈ wAll := kAll 38 (by decide +kernel) (by decide +kernel)
theorem kc_X3_init : Cond.code yX3_init cX3_init 2 none ∈ wAll := kAll 39 (by decide +kernel) (by decide +kernel)
theorem km_L_75 : Cond.methodLink RL 75 yX3_init ∈ wAll := kAll 37 (by decide +kernel) (by decide +kernel)
theorem kC_L_76 : Cond.classLink RL 76 RX5 ∈ wAll := kAll 550 (by decide +kernel) (by decide +kernel)
theorem kN_X5 : Cond.instantiable RX5 14 ∈ wAll := kAll 551 (by decide +kernel) (by decide +kernel)
theorem kj_X5_init : Cond.instanceMethod yX5_init ∈ wAll := kAll 553 (by decide +kernel) (by decide +kernel)
theorem kc_X5_init : Cond.code yX5_init cX5_init 1 none ∈ wAll := kAll 554 (by decide +kernel) (by decide +kernel)
theorem km_L_78 : Cond.methodLink RL 78 yX5_init ∈ wAll := kAll 552 (by decide +kernel) (by decide +kernel)
theorem whole_start {p : Program} {e : Env} {s : State} {m : MethodId} {below : List Frame} {meth : Method} {c : Code} (l : Launch) (hflags : l.flags = flags0) {b L : Nat} {xs : Nat → Int32} (hL : L ≤ 1536) (C0 : lw_At p s m meth c b L xs) : W p l e room_1 s m #[Value.ref b] below meth c s.heap [] 0 0 (lw_Z below #[Value.ref b] s) (entryFrame m ([Value.ref b] : List Value).toArray 9) := by
  obtain ⟨hx, hb, hr, hml, hown, hts, hX, hbl, hlocks, hgv⟩ := C0
  have hl0 := lw_st hflags
  obtain ⟨D, cy, hK⟩ := lw_K hts
  have X : gX p m c code 9 s #[.ref b] lw_tbl RL D cy (fun q => s.heap.size ≤ q) := ⟨⟨hx, hb, hml, hown, hts⟩, hK, fun q h => h, wAll_sub, lw_nst hts⟩
  have Y : lwX p l m c s b L xs D cy (fun q => s.heap.size ≤ q) := ⟨X, lw_env hts hgv, lw_nc hgv, hX, hbl, fun h => absurd hbl (Nat.not_lt.mpr h), hL, hl0⟩
  have kend : ∀ (ad : Nat → Nat) (t : Nat) (ρ : gSt) (th a : Int32), GW p l e room_1 s m #[.ref b] below meth c (lw_Z below #[Value.ref b] s) 9 D (fun q => s.heap.size ≤ q) 67 ad (cL ad cy) (rW ρ (rM ρ th a)) 788088 6731839 1398 [(4, .int (nI (3 * t))), (0, .ref b), (1, .ref (ad 0)), (2, .ref (ad 49)), (3, .ref (ad 48))] [] := fun ad t ρ th a => by
    refine g_iconst X (v := 1) dL_law_1398 (by decide) ?_
    intro H locs la hP hD hS hl
    refine va_forget hS.2.2 ?_
    exact lw_ret (d0 := s.drawn) (Drawn.sameBut.refl s.drawn lw_cs) hx hb hr hlocks dL_law_1399
  have K : GW p l e room_1 s m #[.ref b] below meth c (lw_Z below #[Value.ref b] s) 9 D (fun q => s.heap.size ≤ q) 0 (fun _ => 0) (cE (fun _ => .inl (cy 0, 0, .inl gZr))) z0 0 0 0 [(0, .ref b)] [] := by
    refine gE_new X ku_X3 tyX3 tyX3_ok kC_L_8 kN_X3 ki_X3 kv_X3 [.null, .null, .null, .null, .null, .int 0, .int 0, .int 0, .int 0, .int 0] (fun j hj => by rcases (show j = 0 ∨ j = 1 ∨ j = 2 ∨ j = 3 ∨ j = 4 ∨ j = 5 ∨ j = 6 ∨ j = 7 ∨ j = 8 ∨ j = 9 by omega) with rfl | rfl | rfl | rfl | rfl | rfl | rfl | rfl | rfl | rfl <;> rfl) ⟨Nat.le_of_ble_eq_true rfl, Nat.le_of_ble_eq_true rfl⟩ dL_law_0 (fun q1 => ?_)
    refine g_dup X dL_law_3 rfl ?_
    refine gE_ctor X rfl (c_X3_init l D cy) (lw_AO hts) km_L_75 rfl kj_X3_init ki_X3 kc_X3_init (by decide +kernel) ⟨rfl, rfl, Nat.le_of_ble_eq_true rfl, Nat.le_of_ble_eq_true rfl⟩ rfl (Nat.le_of_ble_eq_true rfl) dL_law_4 ⟨Nat.le_of_ble_eq_true rfl, Nat.le_of_ble_eq_true rfl⟩ (fun u1 hu1 => ?_)
    rw [← hu1]
    refine g_astore_n X [(1, .ref (u1 0)), (0, .ref b)] dL_law_7 rfl (by omega) rfl ?_
    refine gE_new X ku_X5 tyX5 tyX5_ok kC_L_76 kN_X5 ki_X5 kv_X5 [.int 0, .int 0, .null, .null, .int 0, .null, .null, .null, .null, .null, .int 0, .int 0, .null, .null] (fun j hj => by rcases (show j = 0 ∨ j = 1 ∨ j = 2 ∨ j = 3 ∨ j = 4 ∨ j = 5 ∨ j = 6 ∨ j = 7 ∨ j = 8 ∨ j = 9 ∨ j = 10 ∨ j = 11 ∨ j = 12 ∨ j = 13 by omega) with rfl | rfl | rfl | rfl | rfl | rfl | rfl | rfl | rfl | rfl | rfl | rfl | rfl | rfl <;> rfl) ⟨Nat.le_of_ble_eq_true rfl, Nat.le_of_ble_eq_true rfl⟩ dL_law_8 (fun q2 => ?_)
    refine g_dup X dL_law_11 rfl ?_
    refine gE_ctor X rfl (c_X5_init l D cy) (fun _ h => by cases h) km_L_78 rfl kj_X5_init ki_X5 kc_X5_init (by decide +kernel) ⟨rfl, rfl, Nat.le_of_ble_eq_true rfl, Nat.le_of_ble_eq_true rfl⟩ rfl (Nat.le_of_ble_eq_true rfl) dL_law_12 ⟨Nat.le_of_ble_eq_true rfl, Nat.le_of_ble_eq_true rfl⟩ (fun u2 hu2 => ?_)
    rw [← hu2]
    refine g_astore_n X [(2, .ref (u2 0)), (1, .ref (u1 0)), (0, .ref b)] dL_law_15 rfl (by omega) rfl ?_
    refine g_iconst X (v := nI 1) dL_law_16 (by decide) ?_
    refine gE_newl X 1 (by omega) ka_long ⟨Nat.le_of_ble_eq_true rfl, Nat.le_of_ble_eq_true rfl⟩ dL_law_17 (fun q3 => ?_)
    refine g_astore_n X [(3, .ref q3), (2, .ref (u2 0)), (1, .ref (u1 0)), (0, .ref b)] dL_law_19 rfl (by omega) rfl ?_
    refine g_iconst X (v := nI 0) dL_law_20 (by decide) ?_
    refine g_istore X [(4, .int (nI 0)), (3, .ref q3), (2, .ref (u2 0)), (1, .ref (u1 0)), (0, .ref b)] dL_law_21 (by omega) rfl ?_
    obtain ⟨u, eu⟩ : ∃ u : Nat → Nat, u = (fun k => if k < 48 then u1 k else if k = 48 then q3 else u2 (k - 49)) := ⟨_, rfl⟩
    have hu1 : ∀ k, k < 48 → u1 k = u k := fun k hk => by rw [eu]; exact (if_pos hk).symm
    have hu3 : u 48 = q3 := by rw [eu]; rfl
    have hu2 : ∀ j, u (49 + j) = u2 j := fun j => by
      rw [eu]
      show (if 49 + j < 48 then u1 (49 + j) else if 49 + j = 48 then q3 else u2 (49 + j - 49)) = u2 j
      rw [if_neg (by omega), if_neg (by omega), show 49 + j - 49 = j by omega]
    refine gE_pick 67 u (cL u cy) (rW r0 (rM r0 0 0)) (fun k => if k < 48 then k else if k = 48 then 66 else k - 1) (fun k hk => ?_) (fun i j hi hj h => ?_) ?_
    · show (if k < 48 then k else if k = 48 then 66 else k - 1) < 0 + 48 + 18 + 1 ∧ _ ∧ _
      by_cases h1 : k < 48
      · simp only [if_pos h1]
        refine ⟨by omega, ?_, ?_⟩
        · rw [← hu1 k h1]
          simp only [xAd, jA]
          rw [if_neg (by omega), if_pos (by omega), if_neg (by omega), if_neg (by omega), Nat.sub_zero]
        · simp only [uE, jE]
          rw [if_neg (by omega), if_pos (by omega), if_neg (by omega), if_neg (by omega), Nat.sub_zero]
          show eSame (cC u1 cy k (i0C k)) (cL u cy k (rW r0 (rM r0 0 0) k))
          unfold cL cW rW
          rw [if_pos (by omega), if_neg (by omega), if_pos (by omega), ← r0_C]
          exact cC_same hu1 h1
      · by_cases h2 : k = 48
        · subst h2
          exact ⟨by decide, hu3.symm, Or.inl rfl⟩
        · simp only [if_neg h1, if_neg h2]
          have h3 : k = 49 + (k - 49) := by omega
          refine ⟨by omega, ?_, ?_⟩
          · rw [show u k = u2 (k - 49) by rw [← hu2 (k - 49)]; congr 1]
            simp only [xAd, jA]
            rw [if_neg (by omega), if_neg (by omega)]
            exact congrArg u2 (by omega)
          · simp only [uE, jE]
            rw [if_neg (by omega), if_neg (by omega)]
            show eSame (cM u2 cy (k - 1 - (0 + 48)) (i0M (k - 1 - (0 + 48)))) (cL u cy k (rW r0 (rM r0 0 0) k))
            unfold cL rW
            rw [if_neg (by omega), if_neg (by omega), r0_M, show k - 1 - (0 + 48) = k - 49 by omega, show (fun j => u (49 + j)) = u2 from funext hu2]
            exact Or.inl rfl
    · have h : (if i < 48 then i else if i = 48 then 66 else i - 1) = (if j < 48 then j else if j = 48 then 66 else j - 1) := h
      by_cases a1 : i < 48
      · rw [if_pos a1] at h
        by_cases a2 : j < 48
        · rw [if_pos a2] at h
          exact h
        · rw [if_neg a2] at h
          by_cases a4 : j = 48
          · rw [if_pos a4] at h
            omega
          · rw [if_neg a4] at h
            omega
      · rw [if_neg a1] at h
        by_cases a3 : i = 48
        · rw [if_pos a3] at h
          by_cases a2 : j < 48
          · rw [if_pos a2] at h
            omega
          · rw [if_neg a2] at h
            by_cases a4 : j = 48
            · rw [a3, a4]
            · rw [if_neg a4] at h
              omega
        · rw [if_neg a3] at h
          by_cases a2 : j < 48
          · rw [if_pos a2] at h
            omega
          · rw [if_neg a2] at h
            by_cases a4 : j = 48
            · rw [if_pos a4] at h
              omega
            · rw [if_neg a4] at h
              omega
    · rw [show u1 0 = u 0 from hu1 0 (by omega), show u2 0 = u 49 from (hu2 0).symm, ← hu3]
      refine g_ls (ls' := [(4, .int (nI (3 * 0))), (0, .ref b), (1, .ref (u 0)), (2, .ref (u 49)), (3, .ref (u 48))]) [0, 4, 3, 2, 1] rfl ?_
      exact g_widen (Nat.le_of_ble_eq_true rfl) (Nat.le_of_ble_eq_true rfl) (lw_loop Y (kend u) 512 0 (by omega) (by omega) r0 0 0 r0_inv)
  have hl := lv_entry [Value.ref b] (n := 9) (Nat.le_of_ble_eq_true rfl)
  rw [lg_entry_eq]
  exact K s.heap [] _ (fun k q hq => by simp [gWl] at hq) ⟨fun i j x1 x2 h1 => by simp [gWl] at h1, fun k q hq => by simp [gWl] at hq⟩ va_S.rf hl
