set_option maxHeartbeats 4000000 in
set_option maxRecDepth 100000 in
theorem whole_start {p : Program} {e : Env} {s : State} {m : MethodId} {below : List Frame} {meth : Method} {c : Code} (l : Launch) (hflags : l.flags = flags0) {b L : Nat} {xs : Nat → Int32} (hL : L ≤ 260) (C0 : lw_At p s m meth c b L xs) : W p l e room_1 s m #[Value.ref b] below meth c s.heap [] 0 0 (lw_Z below #[Value.ref b] s) (entryFrame m ([Value.ref b] : List Value).toArray 23) := by
  obtain ⟨hx, hb, hr, hml, hown, hts, hX, hbl, hlocks, hgv⟩ := C0
  have hl0 := lw_st hflags
  have hZ := lw_zAO hts
  obtain ⟨D, cy, hK⟩ := lw_K hts
  have X : gX p m c cL_law 23 s #[.ref b] lw_tbl RL D cy (fun q => s.heap.size ≤ q) := ⟨⟨hx, hb, hml, hown, hts⟩, hK, fun q h => h, wAll_sub, lw_nst hts⟩
  have hE := lw_env hts hgv
  have hbA : ¬ (fun q => s.heap.size ≤ q) b := fun h => absurd hbl (Nat.not_lt.mpr h)
  have kend : ∀ (ad : Nat → Nat) (S T : Nat) (Ln : Nat → Nat) (ρ : gSt) (d : Nat), Inx ρ 540 T S d → LnOK ρ T Ln → GW p l e { frames := 12, cells := 600172, slots := 7300668, locals := 442 } s m #[.ref b] below meth c (lw_Z below #[Value.ref b] s) 23 D (fun q => s.heap.size ≤ q) (48 + (8 + S + T)) ad (cW ad cy S T Ln) (wR S ρ ρ) 400000 4000000 1112 [(0, .ref b), (1, .ref (ad 0)), (2, .ref (ad 48)), (3, .int (nI 50))] [] := fun ad S T Ln ρ d hXx hLn => by
    refine law_end X hl0 hE hXx hLn rfl rfl ?_
    intro H locs la hP hD hS hl
    refine va_forget hS.2.2 ?_
    exact lw_ret (d0 := s.drawn) (Drawn.sameBut.refl s.drawn lw_cs) hx hb hr hlocks dL_law_1117
  have K : GW p l e { frames := 12, cells := 600172, slots := 7300668, locals := 442 } s m #[.ref b] below meth c (lw_Z below #[Value.ref b] s) 23 D (fun q => s.heap.size ≤ q) 0 (fun _ => 0) (cE (fun _ => .inl (cy 0, 0, .inl gZr))) z0 0 0 0 [(0, .ref b)] [] := by
    refine gE_new X ku_X3 tyX3 tyX3_ok kC_L_29 kN_X3 ki_X3 kv_X3 [.null, .null, .null, .null, .null, .int 0, .int 0, .int 0, .int 0, .int 0] (fun j hj => by rcases (show j = 0 ∨ j = 1 ∨ j = 2 ∨ j = 3 ∨ j = 4 ∨ j = 5 ∨ j = 6 ∨ j = 7 ∨ j = 8 ∨ j = 9 by omega) with rfl | rfl | rfl | rfl | rfl | rfl | rfl | rfl | rfl | rfl <;> rfl) ⟨Nat.le_of_ble_eq_true rfl, Nat.le_of_ble_eq_true rfl⟩ dL_law_0 (fun q => ?_)
    refine g_dup X dL_law_3 rfl ?_
    refine gE_ctor X rfl (c_X3_init l D cy) (lw_AO hts) km_L_110 rfl kj_X3_init ki_X3 kc_X3_init (by decide +kernel) ⟨rfl, rfl, Nat.le_of_ble_eq_true rfl, Nat.le_of_ble_eq_true rfl⟩ rfl (Nat.le_of_ble_eq_true rfl) dL_law_4 ⟨Nat.le_of_ble_eq_true rfl, Nat.le_of_ble_eq_true rfl⟩ (fun u hu => ?_)
    rw [← hu]
    refine g_astore_n X [(1, .ref (u 0)), (0, .ref b)] dL_law_7 rfl (by omega) rfl ?_
    refine g_ren2 (n' := 48) (ad' := u) (cz' := cC u cy) (ρ' := i0C) (fun k => k) (fun k hk => ?_) (fun i j _ _ h => h) ?_
    · refine ⟨by omega, ?_, ?_⟩
      · show u k = jA 0 _ u k
        unfold jA
        rw [if_neg (Nat.not_lt_zero k), Nat.sub_zero]
      · show eSm (jE 0 _ (fun k => cC u cy k (i0C k)) k) _
        unfold jE
        rw [if_neg (Nat.not_lt_zero k), Nat.sub_zero]
        exact eSm_rf rfl
    refine g_aload_n X dL_law_8 0 rfl rfl ?_
    refine g_aload_n X dL_law_9 1 rfl rfl ?_
    refine g_build X hl0 hE hZ hX hbl hbA hL kl_L_111 ⟨Nat.le_of_ble_eq_true rfl, Nat.le_of_ble_eq_true rfl⟩ (Nat.le_of_ble_eq_true rfl) dL_law_10 ⟨Nat.le_of_ble_eq_true rfl, Nat.le_of_ble_eq_true rfl⟩ (fun v h0 hXx hLn => ?_)
    rw [← h0]
    refine g_astore_n X [(2, .ref (v.1 48)), (1, .ref (v.1 0)), (0, .ref b)] dL_law_13 rfl (by omega) rfl ?_
    refine g_aload_n X dL_law_14 0 rfl rfl ?_
    refine g_ifnonnull X 20 dL_law_15 (by decide) ?_
    refine g_iconst X (v := nI 0) dL_law_20 (by decide) ?_
    refine g_istore_n X [(3, .int (nI 0)), (2, .ref (v.1 48)), (1, .ref (v.1 0)), (0, .ref b)] dL_law_21 rfl (by omega) rfl ?_
    refine g_ls (ls' := [(0, .ref b), (1, .ref (v.1 0)), (2, .ref (v.1 48)), (3, .int (nI 0))]) [3, 2, 1, 0] rfl ?_
    refine g_widen (k9 := 1200 + 6000 * 0) (n9 := 6000 + 36000 * 0) (Nat.le_of_ble_eq_true rfl) (Nat.le_of_ble_eq_true rfl) ?_
    exact law_loop X hl0 hE hZ hX hbl hbA hL kend 50 0 rfl v.1 v.2.1 v.2.2.1 v.2.2.2.1 v.2.2.2.2 3 hXx hLn
  have hl := lv_entry [Value.ref b] (n := 23) (Nat.le_of_ble_eq_true rfl)
  rw [lg_entry_eq]
  exact K s.heap [] _ (fun k q hq => by simp [gWl] at hq) ⟨fun i j x1 x2 h1 => by simp [gWl] at h1, fun k q hq => by simp [gWl] at hq⟩ va_S.rf hl
