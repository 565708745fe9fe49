/-! The class called where it does not throw -/
section FG
variable {p : Program} {l : Launch} {e : Env} {R : Room} {s : State} {m : MethodId} {args : Array Value} {below : List Frame} {meth : Method} {c : Code} {Q : State → Prop}
variable {cc : ByteArray} {nL : Nat} {Ts : List Cond} {own : String} {D : va_G} {cy : Nat → ClassId} {A : Nat → Prop}
variable {n n' : Nat} {ad ad' : Nat → Nat} {cz cz' : Nat → (Nat → Int32) → va_E} {ρ ρ' : gSt} {cells slots pc : Nat} {ls ls' : List (Nat × Value)} {st st0 rest : List Value}
variable {y : MethodName} {rm : Room} {bytes : ByteArray} {maxL nA index mc ms : Nat} {ret : Option FieldType} {C : String} {Tf : u_T} {Nf ci : Nat} {As : List Value}
theorem g_l_at (X : gX p m c cc nL s args Ts own D cy A) {post : Int64 → gSt → Prop} (k0 off : Nat) (σ : gSt) (hσ : ∀ j, j < n' → cz' j (ρ (off + j)) = cz' j (σ j)) (hM : gML l y bytes maxL ret rm D cy n' ad' cz' (.ref (ad k0) :: As) σ post mc ms) (hL : gLkV own index C y bytes maxL ret nA) (hR : rm.cells = mc ∧ rm.slots = ms ∧ rm.frames + 1 ≤ R.frames ∧ 8 + (maxL + 11) + rm.locals ≤ R.locals) (hs : gSub n ad cz off n' ad' cz') (hk0 : k0 < n) (hO : gOb cz k0 ci) (hc : vwCl[ci]? = some (C, Tf, Nf)) (hn : As.length = nA) (hst : st0 = As.reverse ++ .ref (ad k0) :: rest) (hcat : (rest.map fun v => v.category).sum ≤ 8) (hd : decode cc pc = .ok (.invokevirtual index, 3)) (hroom : cells + mc ≤ R.cells ∧ slots + ms ≤ R.slots) (kk : ∀ r ρ1, post r ρ1 → GW p l e R s m args below meth c Q nL D A n ad cz (gBack ρ off n' ρ1) (cells + mc) (slots + ms) (pc + 3) ls (.long r :: rest)) : GW p l e R s m args below meth c Q nL D A n ad cz ρ cells slots pc ls st0 := by
  intro H locs la hP hD hS hl
  have hfree := gA_sub hs hD hS X.2.2.1
  obtain ⟨fs9, hfs9⟩ := hO (ρ k0)
  exact va_calll (va_runV X.1 (hM H.size) (gCwV X.1.2.2.2.2 X.2.2.2.1 hL hR) ⟨gPc_blind, va_recv X.2.1 hP hc ((gWl_get hk0).trans (by rw [hfs9])), fun U hU hW => ⟨rfl, by rw [hU], by rw [hU]; exact gP_congr hσ (gP_sub hs hP), va_K.moved hW.alike X.2.1, gInj_sub hs (gD_inj hD), gNst_warm hW X.2.2.2.2⟩⟩ rfl hn hl.1 hst (lv_room hcat) hd hroom) hS (fun q _ h => hfree q h) hfree (fun r ρ1 t H1 locs1 ht hvm hw hB hz1 hk1 hS1 => kk r ρ1 hw H1 locs1 la (gP_back hs (gD_inj hD) hP hk1 (ht ▸ hB)) (gD_of (gD_inj hD) (fun _ hk => gD_in hD hk)) hS1 hl)
theorem g_d_at (X : gX p m c cc nL s args Ts own D cy A) {post : UInt64 → gSt → Prop} (k0 off : Nat) (σ : gSt) (hσ : ∀ j, j < n' → cz' j (ρ (off + j)) = cz' j (σ j)) (hM : gMD l y bytes maxL ret rm D cy n' ad' cz' (.ref (ad k0) :: As) σ post mc ms) (hL : gLkV own index C y bytes maxL ret nA) (hR : rm.cells = mc ∧ rm.slots = ms ∧ rm.frames + 1 ≤ R.frames ∧ 8 + (maxL + 11) + rm.locals ≤ R.locals) (hs : gSub n ad cz off n' ad' cz') (hk0 : k0 < n) (hO : gOb cz k0 ci) (hc : vwCl[ci]? = some (C, Tf, Nf)) (hn : As.length = nA) (hst : st0 = As.reverse ++ .ref (ad k0) :: rest) (hcat : (rest.map fun v => v.category).sum ≤ 8) (hd : decode cc pc = .ok (.invokevirtual index, 3)) (hroom : cells + mc ≤ R.cells ∧ slots + ms ≤ R.slots) (kk : ∀ r ρ1, post r ρ1 → GW p l e R s m args below meth c Q nL D A n ad cz (gBack ρ off n' ρ1) (cells + mc) (slots + ms) (pc + 3) ls (.double r :: rest)) : GW p l e R s m args below meth c Q nL D A n ad cz ρ cells slots pc ls st0 := by
  intro H locs la hP hD hS hl
  have hfree := gA_sub hs hD hS X.2.2.1
  obtain ⟨fs9, hfs9⟩ := hO (ρ k0)
  exact va_calld (va_runV X.1 (hM H.size) (gCwV X.1.2.2.2.2 X.2.2.2.1 hL hR) ⟨gPc_blind, va_recv X.2.1 hP hc ((gWl_get hk0).trans (by rw [hfs9])), fun U hU hW => ⟨rfl, by rw [hU], by rw [hU]; exact gP_congr hσ (gP_sub hs hP), va_K.moved hW.alike X.2.1, gInj_sub hs (gD_inj hD), gNst_warm hW X.2.2.2.2⟩⟩ rfl hn hl.1 hst (lv_room hcat) hd hroom) hS (fun q _ h => hfree q h) hfree (fun r ρ1 t H1 locs1 ht hvm hw hB hz1 hk1 hS1 => kk r ρ1 hw H1 locs1 la (gP_back hs (gD_inj hD) hP hk1 (ht ▸ hB)) (gD_of (gD_inj hD) (fun _ hk => gD_in hD hk)) hS1 hl)
variable {F S T : Nat} {Ln : Nat → Nat} {fa : Nat → Nat} {fz : Nat → (Nat → Int32) → va_E} {φ ρa ρb ρ2 : gSt} {vl : Int64} {vd : UInt64}
/-- a call of the class, where its cells stand ahead of the Sim's, behind a front -/
theorem g_lc (X : gX p m c cc nL s args Ts own D cy A) (hM : gML l y bytes maxL ret rm D cy 48 ad (cC ad cy) (.ref (ad 0) :: As) ρa (fun r ρ1 => r = vl ∧ ρ1 = ρ2) mc ms) (hL : gLkV own index "StreetOrgans" y bytes maxL ret nA) (hR : rm.cells = mc ∧ rm.slots = ms ∧ rm.frames + 1 ≤ R.frames ∧ 8 + (maxL + 11) + rm.locals ≤ R.locals) (hn : As.length = nA) (hst : st0 = As.reverse ++ .ref (ad 0) :: rest) (hcat : (rest.map fun v => v.category).sum ≤ 8) (hd : decode cc pc = .ok (.invokevirtual index, 3)) (hroom : cells + mc ≤ R.cells ∧ slots + ms ≤ R.slots) (kk : GW p l e R s m args below meth c Q nL D A (nW F S T) (jF F fa ad) (jF F fz (cW ad cy S T Ln)) (jF F φ (wR S ρ2 ρb)) (cells + mc) (slots + ms) (pc + 3) ls (.long vl :: rest)) : GW p l e R s m args below meth c Q nL D A (nW F S T) (jF F fa ad) (jF F fz (cW ad cy S T Ln)) (jF F φ (wR S ρa ρb)) cells slots pc ls st0 := by
  have e0 : jF F fa ad (F + 0) = ad 0 := jF_hi
  refine g_l_at X (F + 0) F ρa (fun j hj => ?_) (by rw [e0]; exact hM) hL hR sub_FC (by show F + 0 < F + (48 + (8 + S + T)); omega) (ci := 3) (gSub_ob (ad := jF F fa ad) sub_FC lC_O (by omega)) rfl hn (by rw [e0]; exact hst) hcat hd hroom (fun r ρ1 h => ?_)
  · rw [jF_hi]
    unfold wR
    rw [jF_lo hj]
  · obtain ⟨rfl, rfl⟩ := h
    refine g_congr (fun k hk => ?_) kk
    refine congrArg (jF F fz (cW ad cy S T Ln) k) ?_
    have hk : k < F + (48 + (8 + S + T)) := hk
    by_cases h2 : k < F
    · simp only [gBack]
      rw [if_neg (show ¬ (F ≤ k ∧ k < F + 48) by omega), jF_lo h2, jF_lo h2]
    · obtain ⟨j, rfl⟩ : ∃ j, k = F + j := ⟨k - F, by omega⟩
      simp only [gBack]
      rw [jF_hi, jF_hi]
      unfold wR
      by_cases h1 : j < 48
      · rw [if_pos (show F ≤ F + j ∧ F + j < F + 48 by omega), jF_lo h1, show F + j - F = j by omega]
      · rw [if_neg (show ¬ (F ≤ F + j ∧ F + j < F + 48) by omega)]
        obtain ⟨i, rfl⟩ : ∃ i, j = 48 + i := ⟨j - 48, by omega⟩
        rw [jF_hi, jF_hi]
/-- a call of the class, where its cells stand ahead of the Sim's, behind a front -/
theorem g_dc (X : gX p m c cc nL s args Ts own D cy A) (hM : gMD l y bytes maxL ret rm D cy 48 ad (cC ad cy) (.ref (ad 0) :: As) ρa (fun r ρ1 => r = vd ∧ ρ1 = ρ2) mc ms) (hL : gLkV own index "StreetOrgans" y bytes maxL ret nA) (hR : rm.cells = mc ∧ rm.slots = ms ∧ rm.frames + 1 ≤ R.frames ∧ 8 + (maxL + 11) + rm.locals ≤ R.locals) (hn : As.length = nA) (hst : st0 = As.reverse ++ .ref (ad 0) :: rest) (hcat : (rest.map fun v => v.category).sum ≤ 8) (hd : decode cc pc = .ok (.invokevirtual index, 3)) (hroom : cells + mc ≤ R.cells ∧ slots + ms ≤ R.slots) (kk : GW p l e R s m args below meth c Q nL D A (nW F S T) (jF F fa ad) (jF F fz (cW ad cy S T Ln)) (jF F φ (wR S ρ2 ρb)) (cells + mc) (slots + ms) (pc + 3) ls (.double vd :: rest)) : GW p l e R s m args below meth c Q nL D A (nW F S T) (jF F fa ad) (jF F fz (cW ad cy S T Ln)) (jF F φ (wR S ρa ρb)) cells slots pc ls st0 := by
  have e0 : jF F fa ad (F + 0) = ad 0 := jF_hi
  refine g_d_at X (F + 0) F ρa (fun j hj => ?_) (by rw [e0]; exact hM) hL hR sub_FC (by show F + 0 < F + (48 + (8 + S + T)); omega) (ci := 3) (gSub_ob (ad := jF F fa ad) sub_FC lC_O (by omega)) rfl hn (by rw [e0]; exact hst) hcat hd hroom (fun r ρ1 h => ?_)
  · rw [jF_hi]
    unfold wR
    rw [jF_lo hj]
  · obtain ⟨rfl, rfl⟩ := h
    refine g_congr (fun k hk => ?_) kk
    refine congrArg (jF F fz (cW ad cy S T Ln) k) ?_
    have hk : k < F + (48 + (8 + S + T)) := hk
    by_cases h2 : k < F
    · simp only [gBack]
      rw [if_neg (show ¬ (F ≤ k ∧ k < F + 48) by omega), jF_lo h2, jF_lo h2]
    · obtain ⟨j, rfl⟩ : ∃ j, k = F + j := ⟨k - F, by omega⟩
      simp only [gBack]
      rw [jF_hi, jF_hi]
      unfold wR
      by_cases h1 : j < 48
      · rw [if_pos (show F ≤ F + j ∧ F + j < F + 48 by omega), jF_lo h1, show F + j - F = j by omega]
      · rw [if_neg (show ¬ (F ≤ F + j ∧ F + j < F + 48) by omega)]
        obtain ⟨i, rfl⟩ : ∃ i, j = 48 + i := ⟨j - 48, by omega⟩
        rw [jF_hi, jF_hi]
theorem gYI_of {post : Int32 → (Nat → Nat → Int32) → Prop} {argv : List Value} (own : String) (hown : y.cls = own) (hy : plainFor y = true) (hlen : (lg_sl argv).length ≤ nL) (hls : lv_args 0 argv = ls) (body : ∀ (p : Program) (e : Env) (s : State) (m : MethodId) (args : Array Value) (below : List Frame) (meth : Method) (c : Code) (A : Nat → Prop), gX p m c cc nL s args (Cond.code y cc nL ret :: wAll) own D cy A → gEnv s A → meth.sig.returnType = ret → meth.locks = false → meth.name = y.name → GW p l e rm s m args below meth c (MQ below (va_Qi post (gB D n ad cz) A) args s mc ms A) nL D A n ad cz ρ 0 0 0 ls []) : gYI l y cc nL ret rm D cy n ad cz argv ρ post mc ms := by
  intro sz
  refine va_MetF (cc := cc) (maxL := nL) (ret := ret) hy rfl ?_
  intro p e s m args below meth c s₁ B hml hv
  obtain ⟨rfl, hsz, hP, hK, hi, hN, hE⟩ := hv
  have hts := atoms_spec (ws := Cond.code y cc nL ret :: wAll) B.pre
  have hfc := findClass_of_methodNamed B.named
  rw [hown] at hfc
  have hl := lv_entry argv (n := nL) hlen
  rw [lg_entry_eq]
  rw [hls] at hl
  subst hsz
  exact body p e s m _ below meth c (gA n ad s.heap.size) ⟨⟨B.exec, B.bytes, hml, hfc, hts⟩, hK, fun q h => Or.inr h, fun w h => List.mem_cons_of_mem _ h, hN⟩ hE B.returns B.notSynchronized (name_of_methodNamed B.named B.method).1 s.heap [] _ hP (gD_of hi (fun k hk => Or.inl ⟨k, hk, rfl⟩)) va_S.rf hl
end FG
section OKS
variable {ρ : gSt} {N T S d t z i k w q u L : Nat} {y : Int32}
theorem ix_N (h : k < 2 ^ 31) : ix (nI k) = k := nI_clamp h
theorem inb_t (hT : ρ 0 5 = nI T) (hT6 : T ≤ 6) (h : t < T) : inb (nI t) (ρ 0 5) := by rw [hT]; exact inb_of h (by omega)
theorem inb_z (hS : ρ 0 6 = nI S) (hS8 : S ≤ 8) (h : z < S) : inb (nI z) (ρ 0 6) := by rw [hS]; exact inb_of h (by omega)
theorem bar_ok (hT : ρ 0 5 = nI T) (h : T < 6) : barF ρ = (0, nI T, up2 ρ 0 5 (nI (T + 1))) := by
  unfold barF
  rw [hT, if_neg (show ¬ nI T = 6 from nI_ne (b := 6) (by omega) (by omega) (by omega)), nI_1]
def pinR (ρ : gSt) (t q L : Nat) : gSt := up2 (up2 (up2 ρ (15 + 3 * t) L (nI q)) (16 + 3 * t) q (ρ (16 + 3 * t) q + 1)) (14 + 3 * t) 2 (nI (L + 1))
theorem pin_ok (hT : ρ 0 5 = nI T) (hT6 : T ≤ 6) (ht : t < T) (hq : q < 12) (hL : ρ (14 + 3 * t) 2 = nI L) (h : L < 16) : pinF ρ (nI t) (nI q) = (0, nI (L + 1), pinR ρ t q L) := by
  unfold pinF pinR
  rw [if_pos (inb_t hT hT6 ht), if_pos (show inb (nI q) 12 from inb_of (T := 12) hq (by omega)), ix_N (k := t) (by omega), ix_N (k := q) (by omega), hL, if_neg (show ¬ nI L = 16 from nI_ne (b := 16) (by omega) (by omega) (by omega)), ix_N (k := L) (by omega), nI_1]
theorem not_ok (hT : ρ 0 5 = nI T) (hT6 : T ≤ 6) (ht : t < T) (hL : ρ (14 + 3 * t) 2 = nI L) (h : L ≤ 16) (hk : k < L) : notF ρ (nI t) (nI k) = (0, ρ (15 + 3 * t) k, ρ) := by
  unfold notF
  rw [if_pos (inb_t hT hT6 ht), ix_N (k := t) (by omega), hL, if_pos (inb_of hk (by omega)), ix_N (k := k) (by omega)]
def strR (ρ : gSt) (S u w : Nat) : gSt := up2 (up2 (up2 ρ (32 + 2 * S) 1 (nI u)) (32 + 2 * S) 2 (nI w)) 0 6 (nI (S + 1))
theorem str_ok (hS : ρ 0 6 = nI S) (h : S < 8) (hu : u ≤ 90) (hw : w ≤ 127) : strF ρ (nI u) (nI w) = (0, nI S, strR ρ S u w) := by
  unfold strF strR
  rw [if_pos (show inl (nI u) 90 from inl_of (T := 90) hu (by omega)), if_pos (show inl (nI w) 127 from inl_of (T := 127) hw (by omega)), hS, if_neg (show ¬ nI S = 8 from nI_ne (b := 8) (by omega) (by omega) (by omega)), ix_N (k := S) (by omega), nI_1]
theorem per_ok (hS : ρ 0 6 = nI S) (hS8 : S ≤ 8) (hz : z < S) (hw : w ≤ 127) : perF ρ (nI z) (nI w) = (0, ρ (32 + 2 * z) 2, up2 ρ (32 + 2 * z) 2 (nI w)) := by
  unfold perF
  rw [if_pos (inb_z hS hS8 hz), if_pos (show inl (nI w) 127 from inl_of (T := 127) hw (by omega)), ix_N (k := z) (by omega)]
theorem dam_ok (hk : k < 7) (hw : w ≤ 5) : damF ρ (nI k) (nI w) = (0, ρ 13 k, up2 ρ 13 k (nI w)) := by
  unfold damF
  rw [if_pos (show inb (nI k) 7 from inb_of (T := 7) hk (by omega)), if_pos (show inl (nI w) 5 from inl_of (T := 5) hw (by omega)), ix_N (k := k) (by omega)]
theorem pla_ok (hT : ρ 0 5 = nI T) (hT6 : T ≤ 6) (hS : ρ 0 6 = nI S) (hS8 : S ≤ 8) (hz : z < S) (ht : t < T) (hL : ¬ ρ (14 + 3 * t) 2 = 0) : plaF ρ (nI z) (nI t) = (0, plV ρ z t, plR ρ z t) := by
  unfold plaF plV plR
  rw [if_pos (inb_z hS hS8 hz), if_pos (inb_t hT hT6 ht), ix_N (k := t) (by omega), ix_N (k := z) (by omega), if_neg hL]
  by_cases h : pmF (ρ (32 + 2 * z) 2) (wdF ρ) = 0
  · rw [if_pos h, if_pos h, if_pos h]
  · rw [if_neg h, if_neg h, if_neg h]
theorem tun_ok (hi : i < 12) (h1 : ¬ y < -120) (h2 : y ≤ 120) : tunF ρ (nI i) y = (0, hdd (ρ 3 i + y), up2 ρ 3 i (hdd (ρ 3 i + y))) := by
  unfold tunF
  rw [if_pos (show inb (nI i) 12 from inb_of (T := 12) hi (by omega)), if_pos ⟨h1, h2⟩, ix_N (k := i) (by omega)]
theorem fel_ok (hi : i < 12) (h : ¬ ρ 0 8 < 4) : felF ρ (nI i) = (0, ρ 2 i, up2 (up2 ρ 0 8 (ρ 0 8 - 4)) 2 i 0) := by
  unfold felF
  rw [if_pos (show inb (nI i) 12 from inb_of (T := 12) hi (by omega)), if_neg h, ix_N (k := i) (by omega)]
theorem pip_ok (hi : i < 12) (hw : w < 5) : pipF ρ (nI i) (nI w) = (0, tellF ρ 1 i w, ρ) := by
  unfold pipF
  rw [if_pos (show inb (nI i) 12 from inb_of (T := 12) hi (by omega)), if_pos (show inb (nI w) 5 from inb_of (T := 5) hw (by omega)), ix_N (k := i) (by omega), ix_N (k := w) (by omega)]
theorem sou_ok (hT : ρ 0 5 = nI T) (hT6 : T ≤ 6) (ht : t < T) : souF ρ (nI t) = (0, sndC ρ 1 t (-1), ρ) := by
  unfold souF
  rw [if_pos (inb_t hT hT6 ht), ix_N (k := t) (by omega)]
theorem tol_ok (hS : ρ 0 6 = nI S) (hS8 : S ≤ 8) (hz : z < S) (hw : w < 5) : tolF ρ (nI z) (nI w) = (0, toldF ρ z w (wdF ρ), ρ) := by
  unfold tolF
  rw [if_pos (inb_z hS hS8 hz), if_pos (show inb (nI w) 5 from inb_of (T := 5) hw (by omega)), ix_N (k := z) (by omega), ix_N (k := w) (by omega)]
theorem cou_ok (hw : w < 9) : couF ρ (nI w) = (0, countF ρ w, ρ) := by
  unfold couF
  rw [if_pos (show inb (nI w) 9 from inb_of (T := 9) hw (by omega)), ix_N (k := w) (by omega)]
theorem res_ok (h7 : ρ 0 7 = nI d) (h31 : d < 2 ^ 31) : resF ρ 1 = (0, csF ρ 1 d 1, resR ρ 1) := by
  unfold resF
  rw [if_pos ⟨by decide, by decide⟩, h7, ix_N (k := d) h31, show ix 1 = 1 from rfl]
theorem pay_ok (hT : ρ 0 5 = nI T) (hT6 : T ≤ 6) (hS : ρ 0 6 = nI S) (hS8 : S ≤ 8) (hz : z < S) (ht : t < T) : payF ρ (nI z) (nI t) = (0, pyN ρ z t, ρ) := by
  unfold payF
  rw [if_pos (inb_z hS hS8 hz), if_pos (inb_t hT hT6 ht), ix_N (k := t) (by omega), ix_N (k := z) (by omega)]
theorem bes_ok (hT : ρ 0 5 = nI T) (hT6 : T ≤ 6) (hS : ρ 0 6 = nI S) (hS8 : S ≤ 8) (hz : z < S) : besF ρ (nI z) = (0, (bsP ρ z T).2, ρ) := by
  unfold besF
  rw [if_pos (inb_z hS hS8 hz), ix_N (k := z) (by omega), hT, ix_N (k := T) (by omega)]
theorem wor_ok (hT : ρ 0 5 = nI T) (hT6 : T ≤ 6) (ht : t < T) : worF ρ (nI t) = (0, (wsP ρ t 12).2, ρ) := by
  unfold worF
  rw [if_pos (inb_t hT hT6 ht), ix_N (k := t) (by omega)]
theorem for_ok : forF ρ 1 5 = (0, sumUpF (forR ρ 1) 6 5, forR ρ 1) := by
  unfold forF
  rw [if_pos ⟨by decide, by decide⟩, if_pos ⟨by decide, by decide⟩]
  rfl
theorem las_ok (hT : ρ 0 5 = nI T) (hT6 : T ≤ 6) (ht : t < T) : lasF ρ (nI t) = (0, nI (laK ρ t 99 0), trR ρ t (laK ρ t 99 0)) := by
  unfold lasF
  rw [if_pos (inb_t hT hT6 ht), ix_N (k := t) (by omega)]
end OKS
