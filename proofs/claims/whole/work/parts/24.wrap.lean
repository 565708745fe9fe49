theorem km_L_7 : Cond.methodLink RL 7 yX3_barrel ∈ wAll := kAll 243 (by decide +kernel) (by decide +kernel)
theorem kj_X3_barrel : Cond.instanceMethod yX3_barrel ∈ wAll := kAll 244 (by decide +kernel) (by decide +kernel)
theorem ks_X3_barrel : Cond.selects RX3 yX3_barrel yX3_barrel ∈ wAll := kAll 245 (by decide +kernel) (by decide +kernel)
theorem kl_L_7 : gLkV RL 7 RX3 yX3_barrel cX3_barrel 1 (some .int) 0 := ⟨km_L_7, kj_X3_barrel, ks_X3_barrel, ki_X3, kc_X3_barrel, by decide +kernel⟩
theorem kX_L_13 : Cond.classLink RL 13 "java/lang/IllegalStateException" ∈ wAll := kAll 242 (by decide +kernel) (by decide +kernel)
theorem km_L_15 : Cond.methodLink RL 15 yX3_pin ∈ wAll := kAll 319 (by decide +kernel) (by decide +kernel)
theorem kj_X3_pin : Cond.instanceMethod yX3_pin ∈ wAll := kAll 320 (by decide +kernel) (by decide +kernel)
theorem ks_X3_pin : Cond.selects RX3 yX3_pin yX3_pin ∈ wAll := kAll 321 (by decide +kernel) (by decide +kernel)
theorem kl_L_15 : gLkV RL 15 RX3 yX3_pin cX3_pin 3 (some .int) 2 := ⟨km_L_15, kj_X3_pin, ks_X3_pin, ki_X3, kc_X3_pin, by decide +kernel⟩
theorem kX_L_19 : Cond.classLink RL 19 "java/lang/IndexOutOfBoundsException" ∈ wAll := kAll 318 (by decide +kernel) (by decide +kernel)
theorem km_L_21 : Cond.methodLink RL 21 yX3_note ∈ wAll := kAll 355 (by decide +kernel) (by decide +kernel)
theorem kj_X3_note : Cond.instanceMethod yX3_note ∈ wAll := kAll 356 (by decide +kernel) (by decide +kernel)
theorem ks_X3_note : Cond.selects RX3 yX3_note yX3_note ∈ wAll := kAll 357 (by decide +kernel) (by decide +kernel)
theorem kl_L_21 : gLkV RL 21 RX3 yX3_note cX3_note 3 (some .int) 2 := ⟨km_L_21, kj_X3_note, ks_X3_note, ki_X3, kc_X3_note, by decide +kernel⟩
theorem km_L_24 : Cond.methodLink RL 24 yX3_street ∈ wAll := kAll 364 (by decide +kernel) (by decide +kernel)
theorem kj_X3_street : Cond.instanceMethod yX3_street ∈ wAll := kAll 365 (by decide +kernel) (by decide +kernel)
theorem ks_X3_street : Cond.selects RX3 yX3_street yX3_street ∈ wAll := kAll 366 (by decide +kernel) (by decide +kernel)
theorem kl_L_24 : gLkV RL 24 RX3 yX3_street cX3_street 3 (some .int) 2 := ⟨km_L_24, kj_X3_street, ks_X3_street, ki_X3, kc_X3_street, by decide +kernel⟩
theorem kX_L_27 : Cond.classLink RL 27 "java/lang/IllegalArgumentException" ∈ wAll := kAll 363 (by decide +kernel) (by decide +kernel)
theorem km_L_29 : Cond.methodLink RL 29 yX3_permit ∈ wAll := kAll 392 (by decide +kernel) (by decide +kernel)
theorem kj_X3_permit : Cond.instanceMethod yX3_permit ∈ wAll := kAll 393 (by decide +kernel) (by decide +kernel)
theorem ks_X3_permit : Cond.selects RX3 yX3_permit yX3_permit ∈ wAll := kAll 394 (by decide +kernel) (by decide +kernel)
theorem kl_L_29 : gLkV RL 29 RX3 yX3_permit cX3_permit 4 (some .int) 2 := ⟨km_L_29, kj_X3_permit, ks_X3_permit, ki_X3, kc_X3_permit, by decide +kernel⟩
theorem km_L_32 : Cond.methodLink RL 32 yX3_setDamp ∈ wAll := kAll 404 (by decide +kernel) (by decide +kernel)
theorem kj_X3_setDamp : Cond.instanceMethod yX3_setDamp ∈ wAll := kAll 405 (by decide +kernel) (by decide +kernel)
theorem ks_X3_setDamp : Cond.selects RX3 yX3_setDamp yX3_setDamp ∈ wAll := kAll 406 (by decide +kernel) (by decide +kernel)
theorem kl_L_32 : gLkV RL 32 RX3 yX3_setDamp cX3_setDamp 4 (some .int) 2 := ⟨km_L_32, kj_X3_setDamp, ks_X3_setDamp, ki_X3, kc_X3_setDamp, by decide +kernel⟩
theorem km_L_35 : Cond.methodLink RL 35 yX3_play ∈ wAll := kAll 413 (by decide +kernel) (by decide +kernel)
theorem kj_X3_play : Cond.instanceMethod yX3_play ∈ wAll := kAll 414 (by decide +kernel) (by decide +kernel)
theorem ks_X3_play : Cond.selects RX3 yX3_play yX3_play ∈ wAll := kAll 415 (by decide +kernel) (by decide +kernel)
theorem kl_L_35 : gLkV RL 35 RX3 yX3_play cX3_play 4 (some .int) 2 := ⟨km_L_35, kj_X3_play, ks_X3_play, ki_X3, kc_X3_play, by decide +kernel⟩
theorem km_L_38 : Cond.methodLink RL 38 yX3_tune ∈ wAll := kAll 435 (by decide +kernel) (by decide +kernel)
theorem kj_X3_tune : Cond.instanceMethod yX3_tune ∈ wAll := kAll 436 (by decide +kernel) (by decide +kernel)
theorem ks_X3_tune : Cond.selects RX3 yX3_tune yX3_tune ∈ wAll := kAll 437 (by decide +kernel) (by decide +kernel)
theorem kl_L_38 : gLkV RL 38 RX3 yX3_tune cX3_tune 3 (some .int) 2 := ⟨km_L_38, kj_X3_tune, ks_X3_tune, ki_X3, kc_X3_tune, by decide +kernel⟩
theorem km_L_41 : Cond.methodLink RL 41 yX3_felt ∈ wAll := kAll 450 (by decide +kernel) (by decide +kernel)
theorem kj_X3_felt : Cond.instanceMethod yX3_felt ∈ wAll := kAll 451 (by decide +kernel) (by decide +kernel)
theorem ks_X3_felt : Cond.selects RX3 yX3_felt yX3_felt ∈ wAll := kAll 452 (by decide +kernel) (by decide +kernel)
theorem kl_L_41 : gLkV RL 41 RX3 yX3_felt cX3_felt 3 (some .int) 1 := ⟨km_L_41, kj_X3_felt, ks_X3_felt, ki_X3, kc_X3_felt, by decide +kernel⟩
theorem km_L_45 : Cond.methodLink RL 45 yX3_pipe ∈ wAll := kAll 458 (by decide +kernel) (by decide +kernel)
theorem kj_X3_pipe : Cond.instanceMethod yX3_pipe ∈ wAll := kAll 459 (by decide +kernel) (by decide +kernel)
theorem ks_X3_pipe : Cond.selects RX3 yX3_pipe yX3_pipe ∈ wAll := kAll 460 (by decide +kernel) (by decide +kernel)
theorem kl_L_45 : gLkV RL 45 RX3 yX3_pipe cX3_pipe 3 (some .int) 2 := ⟨km_L_45, kj_X3_pipe, ks_X3_pipe, ki_X3, kc_X3_pipe, by decide +kernel⟩
theorem km_L_48 : Cond.methodLink RL 48 yX3_sound ∈ wAll := kAll 466 (by decide +kernel) (by decide +kernel)
theorem kj_X3_sound : Cond.instanceMethod yX3_sound ∈ wAll := kAll 467 (by decide +kernel) (by decide +kernel)
theorem ks_X3_sound : Cond.selects RX3 yX3_sound yX3_sound ∈ wAll := kAll 468 (by decide +kernel) (by decide +kernel)
theorem kl_L_48 : gLkV RL 48 RX3 yX3_sound cX3_sound 2 (some .int) 1 := ⟨km_L_48, kj_X3_sound, ks_X3_sound, ki_X3, kc_X3_sound, by decide +kernel⟩
theorem km_L_51 : Cond.methodLink RL 51 yX3_told ∈ wAll := kAll 473 (by decide +kernel) (by decide +kernel)
theorem kj_X3_told : Cond.instanceMethod yX3_told ∈ wAll := kAll 474 (by decide +kernel) (by decide +kernel)
theorem ks_X3_told : Cond.selects RX3 yX3_told yX3_told ∈ wAll := kAll 475 (by decide +kernel) (by decide +kernel)
theorem kl_L_51 : gLkV RL 51 RX3 yX3_told cX3_told 3 (some .int) 2 := ⟨km_L_51, kj_X3_told, ks_X3_told, ki_X3, kc_X3_told, by decide +kernel⟩
theorem km_L_54 : Cond.methodLink RL 54 yX3_count ∈ wAll := kAll 480 (by decide +kernel) (by decide +kernel)
theorem kj_X3_count : Cond.instanceMethod yX3_count ∈ wAll := kAll 481 (by decide +kernel) (by decide +kernel)
theorem ks_X3_count : Cond.selects RX3 yX3_count yX3_count ∈ wAll := kAll 482 (by decide +kernel) (by decide +kernel)
theorem kl_L_54 : gLkV RL 54 RX3 yX3_count cX3_count 2 (some .int) 1 := ⟨km_L_54, kj_X3_count, ks_X3_count, ki_X3, kc_X3_count, by decide +kernel⟩
theorem km_L_57 : Cond.methodLink RL 57 yX3_rest ∈ wAll := kAll 488 (by decide +kernel) (by decide +kernel)
theorem kj_X3_rest : Cond.instanceMethod yX3_rest ∈ wAll := kAll 489 (by decide +kernel) (by decide +kernel)
theorem ks_X3_rest : Cond.selects RX3 yX3_rest yX3_rest ∈ wAll := kAll 490 (by decide +kernel) (by decide +kernel)
theorem kl_L_57 : gLkV RL 57 RX3 yX3_rest cX3_rest 4 (some .int) 1 := ⟨km_L_57, kj_X3_rest, ks_X3_rest, ki_X3, kc_X3_rest, by decide +kernel⟩
theorem km_L_60 : Cond.methodLink RL 60 yX3_pays ∈ wAll := kAll 512 (by decide +kernel) (by decide +kernel)
theorem kj_X3_pays : Cond.instanceMethod yX3_pays ∈ wAll := kAll 513 (by decide +kernel) (by decide +kernel)
theorem ks_X3_pays : Cond.selects RX3 yX3_pays yX3_pays ∈ wAll := kAll 514 (by decide +kernel) (by decide +kernel)
theorem kl_L_60 : gLkV RL 60 RX3 yX3_pays cX3_pays 3 (some .int) 2 := ⟨km_L_60, kj_X3_pays, ks_X3_pays, ki_X3, kc_X3_pays, by decide +kernel⟩
theorem km_L_63 : Cond.methodLink RL 63 yX3_best ∈ wAll := kAll 519 (by decide +kernel) (by decide +kernel)
theorem kj_X3_best : Cond.instanceMethod yX3_best ∈ wAll := kAll 520 (by decide +kernel) (by decide +kernel)
theorem ks_X3_best : Cond.selects RX3 yX3_best yX3_best ∈ wAll := kAll 521 (by decide +kernel) (by decide +kernel)
theorem kl_L_63 : gLkV RL 63 RX3 yX3_best cX3_best 6 (some .int) 1 := ⟨km_L_63, kj_X3_best, ks_X3_best, ki_X3, kc_X3_best, by decide +kernel⟩
theorem km_L_66 : Cond.methodLink RL 66 yX3_worst ∈ wAll := kAll 526 (by decide +kernel) (by decide +kernel)
theorem kj_X3_worst : Cond.instanceMethod yX3_worst ∈ wAll := kAll 527 (by decide +kernel) (by decide +kernel)
theorem ks_X3_worst : Cond.selects RX3 yX3_worst yX3_worst ∈ wAll := kAll 528 (by decide +kernel) (by decide +kernel)
theorem kl_L_66 : gLkV RL 66 RX3 yX3_worst cX3_worst 6 (some .int) 1 := ⟨km_L_66, kj_X3_worst, ks_X3_worst, ki_X3, kc_X3_worst, by decide +kernel⟩
theorem km_L_69 : Cond.methodLink RL 69 yX3_foresee ∈ wAll := kAll 534 (by decide +kernel) (by decide +kernel)
theorem kj_X3_foresee : Cond.instanceMethod yX3_foresee ∈ wAll := kAll 535 (by decide +kernel) (by decide +kernel)
theorem ks_X3_foresee : Cond.selects RX3 yX3_foresee yX3_foresee ∈ wAll := kAll 536 (by decide +kernel) (by decide +kernel)
theorem kl_L_69 : gLkV RL 69 RX3 yX3_foresee cX3_foresee 3 (some .int) 2 := ⟨km_L_69, kj_X3_foresee, ks_X3_foresee, ki_X3, kc_X3_foresee, by decide +kernel⟩
theorem km_L_72 : Cond.methodLink RL 72 yX3_lasts ∈ wAll := kAll 546 (by decide +kernel) (by decide +kernel)
theorem kj_X3_lasts : Cond.instanceMethod yX3_lasts ∈ wAll := kAll 547 (by decide +kernel) (by decide +kernel)
theorem ks_X3_lasts : Cond.selects RX3 yX3_lasts yX3_lasts ∈ wAll := kAll 548 (by decide +kernel) (by decide +kernel)
theorem kl_L_72 : gLkV RL 72 RX3 yX3_lasts cX3_lasts 3 (some .int) 1 := ⟨km_L_72, kj_X3_lasts, ks_X3_lasts, ki_X3, kc_X3_lasts, by decide +kernel⟩
/-! The law's own methods: each tries one call of the class, and tells its kind and its answer -/
def gNcs : List (String × String) := [("java/lang/IllegalStateException", "java/lang/IndexOutOfBoundsException"), ("java/lang/IllegalStateException", "java/lang/IllegalArgumentException"), ("java/lang/IllegalArgumentException", "java/lang/IndexOutOfBoundsException"), ("java/lang/IndexOutOfBoundsException", "java/lang/IllegalArgumentException")]
def gNc (U : State) : Prop := ∀ q ∈ gNcs, va_Nc q.1 q.2 U
/-- the class's cells, and the row that takes its answers -/
def cW (ad : Nat → Nat) (cy : Nat → ClassId) (k : Nat) (r : Nat → Int32) : va_E := if k = 48 then .inl (cy 4, 1, .inr (.inl (fun j => (r j).toInt64))) else cC ad cy k r
theorem gSubW {ad : Nat → Nat} {cy : Nat → ClassId} : gSub 49 ad (cW ad cy) 0 48 ad (cC ad cy) := ⟨by omega, fun j hj => by
  rw [Nat.zero_add]
  exact ⟨rfl, fun r => by unfold cW; rw [if_neg (by omega)]⟩⟩
theorem lW_O {ad : Nat → Nat} {cy : Nat → ClassId} : gOb (cW ad cy) 0 3 := fun r => ⟨_, rfl⟩
theorem lW_out {ad : Nat → Nat} {cy : Nat → ClassId} : gAL (cW ad cy) (cy 4) 48 1 := fun r => rfl
def gPw (D : va_G) (cy : Nat → ClassId) (n : Nat) (ad : Nat → Nat) (cz : Nat → (Nat → Int32) → va_E) (ρ : Nat → Nat → Int32) (argv : List Value) (sz : Nat) : Array Value → State → Prop := va_Pc argv (fun U => U.heap.size = sz ∧ va_P D vwCl (gWl n ad cz ρ) U.heap ∧ va_K D vwCl (gT cy) U ∧ gInj n ad ∧ gNst U ∧ gEnv U (gA n ad sz) ∧ gNc U)
theorem gPw_blind {D : va_G} {cy : Nat → ClassId} {n : Nat} {ad : Nat → Nat} {cz : Nat → (Nat → Int32) → va_E} {ρ : Nat → Nat → Int32} {argv : List Value} {sz : Nat} : FrameBlind (gPw D cy n ad cz ρ argv sz) := fun a U g mk q => by
  obtain ⟨q0, q1, q2, q3, q4, q6, q5, q7⟩ := q
  exact ⟨q0, q1, q2, va_K.moved (u := U) (U := U.calling g mk a) (Vm.Alike.refl U.vm) q3, q4, gNst_same (u := U) (U := U.calling g mk a) rfl q6, gEnv_same (U := U) (V := U.calling g mk a) rfl rfl q5, fun x hx => va_Nc.moved (u := U) (U := U.calling g mk a) (Vm.Alike.refl U.vm) (q7 x hx)⟩
def gMH (l : Launch) (y : MethodName) (b : ByteArray) (nL : Nat) (hh : List (Nat × Nat × Nat × Nat)) (rm : Room) (D : va_G) (cy : Nat → ClassId) (n : Nat) (ad : Nat → Nat) (cz : Nat → (Nat → Int32) → va_E) (argv : List Value) (ρ : Nat → Nat → Int32) (post : Int32 → (Nat → Nat → Int32) → Prop) (mc ms : Nat) : Prop := ∀ sz : Nat, Met l y (Cond.codeWith y b nL (some .int) hh :: wAll) rm (gPw D cy n ad cz ρ argv sz) (va_Qi post (gB D n ad cz) (gA n ad sz)) mc ms (gA n ad sz)
section WR
variable {p : Program} {l : Launch} {e : Env} {R : Room} {s : State} {m : MethodId} {args : Array Value} {below : List Frame} {meth : Method} {c : Code} {Q : State → Prop}
variable {cc : ByteArray} {nL : Nat} {Ts : List Cond} {own : String} {D : va_G} {cy : Nat → ClassId} {A : Nat → Prop}
variable {n : Nat} {ad : Nat → Nat} {cz : Nat → (Nat → Int32) → va_E} {ρ : gSt} {cells slots pc : Nat} {ls ls' : List (Nat × Value)} {st st0 rest : List Value}
variable {y : MethodName} {rm : Room} {mc ms : Nat}
theorem gMH_of {hh : List (Nat × Nat × Nat × Nat)} {post : Int32 → (Nat → Nat → Int32) → Prop} {argv : List Value} (own : String) (hown : y.cls = own) (hy : plainName y.cls = true) (hlen : (lg_sl argv).length ≤ nL) (hls : lv_args 0 argv = ls) (body : ∀ (p : Program) (e : Env) (s : State) (m : MethodId) (args : Array Value) (below : List Frame) (meth : Method) (c : Code) (A : Nat → Prop), gX p m c cc nL s args (Cond.codeWith y cc nL (some .int) hh :: wAll) own D cy A → gEnv s A → gNc s → c.exceptionTable.toList = tableOf hh → meth.sig.returnType = some .int → meth.locks = false → GW p l e rm s m args below meth c (MQ below (va_Qi post (gB D n ad cz) A) args s mc ms A) nL D A n ad cz ρ 0 0 0 ls []) : gMH l y cc nL hh rm D cy n ad cz argv ρ post mc ms := by
  intro sz
  refine va_MetW (cc := cc) (maxL := nL) (ret := some .int) (hh := hh) hy rfl ?_
  intro p e s m args below meth c s₁ B hml hv
  obtain ⟨rfl, hsz, hP, hK, hi, hN, hE, hC⟩ := hv
  have hts := atoms_spec (ws := Cond.codeWith y cc nL (some .int) hh :: wAll) B.pre
  have hfc := findClass_of_methodNamed B.named
  rw [hown] at hfc
  have hl := lv_entry argv (n := nL) hlen
  rw [lg_entry_eq]
  rw [hls] at hl
  subst hsz
  exact body p e s m _ below meth c (gA n ad s.heap.size) ⟨⟨B.exec, B.bytes, hml, hfc, hts⟩, hK, fun q h => Or.inr h, fun w h => List.mem_cons_of_mem _ h, hN⟩ hE hC (vx_table (x := y) B (hts _ List.mem_cons_self)) B.returns B.notSynchronized s.heap [] _ hP (gD_of hi (fun k hk => Or.inl ⟨k, hk, rfl⟩)) va_S.rf hl
theorem g_catch (X : gX p m c cc nL s args Ts own D cy A) {name E : String} {ce : Cell} {q9 : Addr} {H1 : Heap} {locs1 : List Loc} {la : Array Slot} (pre : List ExceptionTableEntry) (x : ExceptionTableEntry) (suf : List ExceptionTableEntry) (hsplit : c.exceptionTable.toList = pre ++ x :: suf) (hpass : ∀ z ∈ pre, covers z pc = false ∨ (z.catchType ≠ 0 ∧ ∃ nm : String, Cond.classLink own z.catchType nm ∈ wAll ∧ va_Nc E nm s)) (hx : covers x pc = true) (h0 : x.catchType ≠ 0) (hw : Cond.classLink own x.catchType name ∈ wAll) (hcast : Cond.castable E name ∈ gNsw) (hP1 : va_P D vwCl (gWl n ad cz ρ) H1) (hD1 : va_D A (gWl n ad cz ρ)) (hS1 : va_S A s.heap H1 locs1) (hl1 : lv_has la nL ls) (hce : H1[q9]? = some ce) (hcv : ce.vm = .none) (hcl : s.vm.findClass E = some ce.cls) (kk : GW p l e R s m args below meth c Q nL D A n ad cz ρ cells slots x.handlerPc ls [.ref q9]) : vx_W p l e R s m args below meth c H1 locs1 cells slots Q (F0 m pc la rest) q9 := by
  have ht := X.1.2.2.2.2
  exact vx_catch X.1.2.2.2.1 pre x suf hsplit (fun z hz => by
    rcases hpass z hz with h | ⟨h1, nm, h2, h3⟩
    · exact Or.inl h
    · exact Or.inr ⟨h1, nm, ht _ (X.2.2.2.1 _ h2), h3⟩) hx h0 (ht _ (X.2.2.2.1 _ hw)) (va_Nw.use rfl (X.2.2.2.2 _ hcast)) hce hcv hcl (kk H1 locs1 la hP1 hD1 hS1 hl1)
end WR
theorem xz_bar {ρ : gSt} : (barF ρ).1 = 0 ∨ (barF ρ).2.2 = ρ := by
  unfold barF
  repeat' split
  all_goals first | exact Or.inl rfl | exact Or.inr rfl
theorem c_L_barrel (l : Launch) (hl0 : l.stackTraces = false) (D : va_G) (cy : Nat → ClassId) (ad : Nat → Nat) (ρ : Nat → Nat → Int32) (N T S d : Nat) (hI : Inv ρ N T S d) : gMH l yL_barrel cL_barrel 3 [(0, 8, 11, 13)] { frames := 7, cells := 3, slots := 18, locals := 110 } D cy 49 ad (cW ad cy) [.ref (ad 0), .ref (ad 48)] ρ (fun r ρ1 => r = nI (barF ρ).1 ∧ (∀ k, k < 48 → ρ1 k = (barF ρ).2.2 k) ∧ ((barF ρ).1 = 0 → ρ1 48 0 = (barF ρ).2.1)) 3 18 := by
  refine gMH_of RL rfl (by decide +kernel) (Nat.le_of_ble_eq_true rfl) (ls := [(0, .ref (ad 0)), (1, .ref (ad 48))]) rfl (fun p e s m args below meth c A X hE hC htab hr hlk => ?_)
  refine g_aload_n X dL_barrel_0 1 rfl rfl ?_
  refine g_iconst X (v := 0) dL_barrel_1 (by decide) ?_
  refine g_aload_n X dL_barrel_2 0 rfl rfl ?_
  refine g_xcallVi_at X hE 0 0 (by rw [gOff0]; exact c_X3_barrel l hl0 D cy ad ρ N T S d hI) kl_L_7 ⟨rfl, rfl, Nat.le_of_ble_eq_true rfl, Nat.le_of_ble_eq_true rfl⟩ gSubW (by omega) lW_O kv_X3 rfl rfl (Nat.le_of_ble_eq_true rfl) dL_barrel_3 ⟨Nat.le_of_ble_eq_true rfl, Nat.le_of_ble_eq_true rfl⟩ (fun E ce q9 H1 locs1 la hx hP1 hD1 hS1 hl1 hce hcv hcl => ?_) (fun r ρ1 hp => ?_)
  · obtain ⟨rfl, hk⟩ := hx
    refine g_catch X [] ⟨0, 8, 11, 13⟩ [] htab (fun z hz => by cases hz) rfl (by decide) kX_L_13 (by decide +kernel) hP1 hD1 hS1 hl1 hce hcv hcl ?_
    refine g_astore_n X [(2, .ref q9), (0, .ref (ad 0)), (1, .ref (ad 48))] dL_barrel_11 rfl (by omega) rfl ?_
    refine g_iconst X (v := nI 1) dL_barrel_12 (by decide) ?_
    exact g_iret X hr hlk (Nat.le_of_ble_eq_true rfl) (Nat.le_of_ble_eq_true rfl) dL_barrel_13 ⟨by rw [hk], fun k _ => by rw [(xz_bar).resolve_left (by rw [hk]; decide)], fun h => by rw [hk] at h; cases h⟩
  · refine g_i2l X dL_barrel_6 ?_
    refine g_last X 48 (by omega) lW_out (pk_in 0 1 (by omega) rfl) dL_barrel_7 (fun ρ2 e2 => ?_)
    refine g_goto X 14 dL_barrel_8 (by decide) ?_
    refine g_iconst X (v := nI 0) dL_barrel_14 (by decide) ?_
    exact g_iret X hr hlk (Nat.le_of_ble_eq_true rfl) (Nat.le_of_ble_eq_true rfl) dL_barrel_15 ⟨by rw [hp], fun k hk => by rw [hp, e2]; funext j; rw [up2_k (by omega), gBack_all hk], fun _ => by rw [hp, e2]; exact up2_s⟩
theorem xz_pin {ρ : gSt} {x y : Int32} : (pinF ρ x y).1 = 0 ∨ (pinF ρ x y).2.2 = ρ := by
  unfold pinF
  repeat' split
  all_goals first | exact Or.inl rfl | exact Or.inr rfl
theorem c_L_pin (l : Launch) (hl0 : l.stackTraces = false) (D : va_G) (cy : Nat → ClassId) (ad : Nat → Nat) (ρ : Nat → Nat → Int32) (N T S d : Nat) (hI : Inv ρ N T S d) (x y : Int32) : gMH l yL_pin cL_pin 5 [(0, 10, 13, 19), (0, 10, 17, 13)] { frames := 8, cells := 3, slots := 18, locals := 133 } D cy 49 ad (cW ad cy) [.ref (ad 0), .int x, .int y, .ref (ad 48)] ρ (fun r ρ1 => r = nI (pinF ρ x y).1 ∧ (∀ k, k < 48 → ρ1 k = (pinF ρ x y).2.2 k) ∧ ((pinF ρ x y).1 = 0 → ρ1 48 0 = (pinF ρ x y).2.1)) 3 18 := by
  refine gMH_of RL rfl (by decide +kernel) (Nat.le_of_ble_eq_true rfl) (ls := [(0, .ref (ad 0)), (1, .int x), (2, .int y), (3, .ref (ad 48))]) rfl (fun p e s m args below meth c A X hE hC htab hr hlk => ?_)
  refine g_aload_n X dL_pin_0 3 rfl rfl ?_
  refine g_iconst X (v := 0) dL_pin_1 (by decide) ?_
  refine g_aload_n X dL_pin_2 0 rfl rfl ?_
  refine g_iload_n X dL_pin_3 1 rfl rfl ?_
  refine g_iload_n X dL_pin_4 2 rfl rfl ?_
  refine g_xcallVi_at X hE 0 0 (by rw [gOff0]; exact c_X3_pin l hl0 D cy ad ρ N T S d hI x y) kl_L_15 ⟨rfl, rfl, Nat.le_of_ble_eq_true rfl, Nat.le_of_ble_eq_true rfl⟩ gSubW (by omega) lW_O kv_X3 rfl rfl (Nat.le_of_ble_eq_true rfl) dL_pin_5 ⟨Nat.le_of_ble_eq_true rfl, Nat.le_of_ble_eq_true rfl⟩ (fun E ce q9 H1 locs1 la hx hP1 hD1 hS1 hl1 hce hcv hcl => ?_) (fun r ρ1 hp => ?_)
  · rcases hx with ⟨rfl, hk⟩ | ⟨rfl, hk⟩
    · skip
      refine g_catch X [] ⟨0, 10, 13, 19⟩ [⟨0, 10, 17, 13⟩] htab (fun z hz => by cases hz) rfl (by decide) kX_L_19 (by decide +kernel) hP1 hD1 hS1 hl1 hce hcv hcl ?_
      refine g_astore X [(4, .ref q9), (0, .ref (ad 0)), (1, .int x), (2, .int y), (3, .ref (ad 48))] dL_pin_13 (by omega) rfl ?_
      refine g_iconst X (v := nI 1) dL_pin_15 (by decide) ?_
      exact g_iret X hr hlk (Nat.le_of_ble_eq_true rfl) (Nat.le_of_ble_eq_true rfl) dL_pin_16 ⟨by rw [hk], fun k _ => by rw [(xz_pin).resolve_left (by rw [hk]; decide)], fun h => by rw [hk] at h; cases h⟩
    · skip
      refine g_catch X [⟨0, 10, 13, 19⟩] ⟨0, 10, 17, 13⟩ [] htab (fun z hz => by obtain rfl := List.mem_singleton.mp hz; exact Or.inr ⟨by decide, "java/lang/IndexOutOfBoundsException", kX_L_19, hC ("java/lang/IllegalStateException", "java/lang/IndexOutOfBoundsException") (by decide +kernel)⟩) rfl (by decide) kX_L_13 (by decide +kernel) hP1 hD1 hS1 hl1 hce hcv hcl ?_
      refine g_astore X [(4, .ref q9), (0, .ref (ad 0)), (1, .int x), (2, .int y), (3, .ref (ad 48))] dL_pin_17 (by omega) rfl ?_
      refine g_iconst X (v := nI 2) dL_pin_19 (by decide) ?_
      exact g_iret X hr hlk (Nat.le_of_ble_eq_true rfl) (Nat.le_of_ble_eq_true rfl) dL_pin_20 ⟨by rw [hk], fun k _ => by rw [(xz_pin).resolve_left (by rw [hk]; decide)], fun h => by rw [hk] at h; cases h⟩
  · refine g_i2l X dL_pin_8 ?_
    refine g_last X 48 (by omega) lW_out (pk_in 0 1 (by omega) rfl) dL_pin_9 (fun ρ2 e2 => ?_)
    refine g_goto X 21 dL_pin_10 (by decide) ?_
    refine g_iconst X (v := nI 0) dL_pin_21 (by decide) ?_
    exact g_iret X hr hlk (Nat.le_of_ble_eq_true rfl) (Nat.le_of_ble_eq_true rfl) dL_pin_22 ⟨by rw [hp], fun k hk => by rw [hp, e2]; funext j; rw [up2_k (by omega), gBack_all hk], fun _ => by rw [hp, e2]; exact up2_s⟩
theorem xz_not {ρ : gSt} {x y : Int32} : (notF ρ x y).1 = 0 ∨ (notF ρ x y).2.2 = ρ := by
  unfold notF
  repeat' split
  all_goals first | exact Or.inl rfl | exact Or.inr rfl
theorem c_L_note (l : Launch) (hl0 : l.stackTraces = false) (D : va_G) (cy : Nat → ClassId) (ad : Nat → Nat) (ρ : Nat → Nat → Int32) (N T S d : Nat) (hI : Inv ρ N T S d) (x y : Int32) : gMH l yL_note cL_note 5 [(0, 10, 13, 19)] { frames := 8, cells := 3, slots := 18, locals := 133 } D cy 49 ad (cW ad cy) [.ref (ad 0), .int x, .int y, .ref (ad 48)] ρ (fun r ρ1 => r = nI (notF ρ x y).1 ∧ (∀ k, k < 48 → ρ1 k = (notF ρ x y).2.2 k) ∧ ((notF ρ x y).1 = 0 → ρ1 48 0 = (notF ρ x y).2.1)) 3 18 := by
  refine gMH_of RL rfl (by decide +kernel) (Nat.le_of_ble_eq_true rfl) (ls := [(0, .ref (ad 0)), (1, .int x), (2, .int y), (3, .ref (ad 48))]) rfl (fun p e s m args below meth c A X hE hC htab hr hlk => ?_)
  refine g_aload_n X dL_note_0 3 rfl rfl ?_
  refine g_iconst X (v := 0) dL_note_1 (by decide) ?_
  refine g_aload_n X dL_note_2 0 rfl rfl ?_
  refine g_iload_n X dL_note_3 1 rfl rfl ?_
  refine g_iload_n X dL_note_4 2 rfl rfl ?_
  refine g_xcallVi_at X hE 0 0 (by rw [gOff0]; exact c_X3_note l hl0 D cy ad ρ N T S d hI x y) kl_L_21 ⟨rfl, rfl, Nat.le_of_ble_eq_true rfl, Nat.le_of_ble_eq_true rfl⟩ gSubW (by omega) lW_O kv_X3 rfl rfl (Nat.le_of_ble_eq_true rfl) dL_note_5 ⟨Nat.le_of_ble_eq_true rfl, Nat.le_of_ble_eq_true rfl⟩ (fun E ce q9 H1 locs1 la hx hP1 hD1 hS1 hl1 hce hcv hcl => ?_) (fun r ρ1 hp => ?_)
  · obtain ⟨rfl, hk⟩ := hx
    refine g_catch X [] ⟨0, 10, 13, 19⟩ [] htab (fun z hz => by cases hz) rfl (by decide) kX_L_19 (by decide +kernel) hP1 hD1 hS1 hl1 hce hcv hcl ?_
    refine g_astore X [(4, .ref q9), (0, .ref (ad 0)), (1, .int x), (2, .int y), (3, .ref (ad 48))] dL_note_13 (by omega) rfl ?_
    refine g_iconst X (v := nI 1) dL_note_15 (by decide) ?_
    exact g_iret X hr hlk (Nat.le_of_ble_eq_true rfl) (Nat.le_of_ble_eq_true rfl) dL_note_16 ⟨by rw [hk], fun k _ => by rw [(xz_not).resolve_left (by rw [hk]; decide)], fun h => by rw [hk] at h; cases h⟩
  · refine g_i2l X dL_note_8 ?_
    refine g_last X 48 (by omega) lW_out (pk_in 0 1 (by omega) rfl) dL_note_9 (fun ρ2 e2 => ?_)
    refine g_goto X 17 dL_note_10 (by decide) ?_
    refine g_iconst X (v := nI 0) dL_note_17 (by decide) ?_
    exact g_iret X hr hlk (Nat.le_of_ble_eq_true rfl) (Nat.le_of_ble_eq_true rfl) dL_note_18 ⟨by rw [hp], fun k hk => by rw [hp, e2]; funext j; rw [up2_k (by omega), gBack_all hk], fun _ => by rw [hp, e2]; exact up2_s⟩
theorem xz_str {ρ : gSt} {x y : Int32} : (strF ρ x y).1 = 0 ∨ (strF ρ x y).2.2 = ρ := by
  unfold strF
  repeat' split
  all_goals first | exact Or.inl rfl | exact Or.inr rfl
theorem c_L_street (l : Launch) (hl0 : l.stackTraces = false) (D : va_G) (cy : Nat → ClassId) (ad : Nat → Nat) (ρ : Nat → Nat → Int32) (N T S d : Nat) (hI : Inv ρ N T S d) (x y : Int32) : gMH l yL_street cL_street 5 [(0, 10, 13, 27), (0, 10, 17, 13)] { frames := 8, cells := 3, slots := 18, locals := 132 } D cy 49 ad (cW ad cy) [.ref (ad 0), .int x, .int y, .ref (ad 48)] ρ (fun r ρ1 => r = nI (strF ρ x y).1 ∧ (∀ k, k < 48 → ρ1 k = (strF ρ x y).2.2 k) ∧ ((strF ρ x y).1 = 0 → ρ1 48 0 = (strF ρ x y).2.1)) 3 18 := by
  refine gMH_of RL rfl (by decide +kernel) (Nat.le_of_ble_eq_true rfl) (ls := [(0, .ref (ad 0)), (1, .int x), (2, .int y), (3, .ref (ad 48))]) rfl (fun p e s m args below meth c A X hE hC htab hr hlk => ?_)
  refine g_aload_n X dL_street_0 3 rfl rfl ?_
  refine g_iconst X (v := 0) dL_street_1 (by decide) ?_
  refine g_aload_n X dL_street_2 0 rfl rfl ?_
  refine g_iload_n X dL_street_3 1 rfl rfl ?_
  refine g_iload_n X dL_street_4 2 rfl rfl ?_
  refine g_xcallVi_at X hE 0 0 (by rw [gOff0]; exact c_X3_street l hl0 D cy ad ρ N T S d hI x y) kl_L_24 ⟨rfl, rfl, Nat.le_of_ble_eq_true rfl, Nat.le_of_ble_eq_true rfl⟩ gSubW (by omega) lW_O kv_X3 rfl rfl (Nat.le_of_ble_eq_true rfl) dL_street_5 ⟨Nat.le_of_ble_eq_true rfl, Nat.le_of_ble_eq_true rfl⟩ (fun E ce q9 H1 locs1 la hx hP1 hD1 hS1 hl1 hce hcv hcl => ?_) (fun r ρ1 hp => ?_)
  · rcases hx with ⟨rfl, hk⟩ | ⟨rfl, hk⟩
    · skip
      refine g_catch X [] ⟨0, 10, 13, 27⟩ [⟨0, 10, 17, 13⟩] htab (fun z hz => by cases hz) rfl (by decide) kX_L_27 (by decide +kernel) hP1 hD1 hS1 hl1 hce hcv hcl ?_
      refine g_astore X [(4, .ref q9), (0, .ref (ad 0)), (1, .int x), (2, .int y), (3, .ref (ad 48))] dL_street_13 (by omega) rfl ?_
      refine g_iconst X (v := nI 1) dL_street_15 (by decide) ?_
      exact g_iret X hr hlk (Nat.le_of_ble_eq_true rfl) (Nat.le_of_ble_eq_true rfl) dL_street_16 ⟨by rw [hk], fun k _ => by rw [(xz_str).resolve_left (by rw [hk]; decide)], fun h => by rw [hk] at h; cases h⟩
    · skip
      refine g_catch X [⟨0, 10, 13, 27⟩] ⟨0, 10, 17, 13⟩ [] htab (fun z hz => by obtain rfl := List.mem_singleton.mp hz; exact Or.inr ⟨by decide, "java/lang/IllegalArgumentException", kX_L_27, hC ("java/lang/IllegalStateException", "java/lang/IllegalArgumentException") (by decide +kernel)⟩) rfl (by decide) kX_L_13 (by decide +kernel) hP1 hD1 hS1 hl1 hce hcv hcl ?_
      refine g_astore X [(4, .ref q9), (0, .ref (ad 0)), (1, .int x), (2, .int y), (3, .ref (ad 48))] dL_street_17 (by omega) rfl ?_
      refine g_iconst X (v := nI 2) dL_street_19 (by decide) ?_
      exact g_iret X hr hlk (Nat.le_of_ble_eq_true rfl) (Nat.le_of_ble_eq_true rfl) dL_street_20 ⟨by rw [hk], fun k _ => by rw [(xz_str).resolve_left (by rw [hk]; decide)], fun h => by rw [hk] at h; cases h⟩
  · refine g_i2l X dL_street_8 ?_
    refine g_last X 48 (by omega) lW_out (pk_in 0 1 (by omega) rfl) dL_street_9 (fun ρ2 e2 => ?_)
    refine g_goto X 21 dL_street_10 (by decide) ?_
    refine g_iconst X (v := nI 0) dL_street_21 (by decide) ?_
    exact g_iret X hr hlk (Nat.le_of_ble_eq_true rfl) (Nat.le_of_ble_eq_true rfl) dL_street_22 ⟨by rw [hp], fun k hk => by rw [hp, e2]; funext j; rw [up2_k (by omega), gBack_all hk], fun _ => by rw [hp, e2]; exact up2_s⟩
theorem xz_per {ρ : gSt} {x y : Int32} : (perF ρ x y).1 = 0 ∨ (perF ρ x y).2.2 = ρ := by
  unfold perF
  repeat' split
  all_goals first | exact Or.inl rfl | exact Or.inr rfl
theorem c_L_permit (l : Launch) (hl0 : l.stackTraces = false) (D : va_G) (cy : Nat → ClassId) (ad : Nat → Nat) (ρ : Nat → Nat → Int32) (N T S d : Nat) (hI : Inv ρ N T S d) (x y : Int32) : gMH l yL_permit cL_permit 5 [(0, 10, 13, 19), (0, 10, 17, 27)] { frames := 8, cells := 3, slots := 18, locals := 134 } D cy 49 ad (cW ad cy) [.ref (ad 0), .int x, .int y, .ref (ad 48)] ρ (fun r ρ1 => r = nI (perF ρ x y).1 ∧ (∀ k, k < 48 → ρ1 k = (perF ρ x y).2.2 k) ∧ ((perF ρ x y).1 = 0 → ρ1 48 0 = (perF ρ x y).2.1)) 3 18 := by
  refine gMH_of RL rfl (by decide +kernel) (Nat.le_of_ble_eq_true rfl) (ls := [(0, .ref (ad 0)), (1, .int x), (2, .int y), (3, .ref (ad 48))]) rfl (fun p e s m args below meth c A X hE hC htab hr hlk => ?_)
  refine g_aload_n X dL_permit_0 3 rfl rfl ?_
  refine g_iconst X (v := 0) dL_permit_1 (by decide) ?_
  refine g_aload_n X dL_permit_2 0 rfl rfl ?_
  refine g_iload_n X dL_permit_3 1 rfl rfl ?_
  refine g_iload_n X dL_permit_4 2 rfl rfl ?_
  refine g_xcallVi_at X hE 0 0 (by rw [gOff0]; exact c_X3_permit l hl0 D cy ad ρ N T S d hI x y) kl_L_29 ⟨rfl, rfl, Nat.le_of_ble_eq_true rfl, Nat.le_of_ble_eq_true rfl⟩ gSubW (by omega) lW_O kv_X3 rfl rfl (Nat.le_of_ble_eq_true rfl) dL_permit_5 ⟨Nat.le_of_ble_eq_true rfl, Nat.le_of_ble_eq_true rfl⟩ (fun E ce q9 H1 locs1 la hx hP1 hD1 hS1 hl1 hce hcv hcl => ?_) (fun r ρ1 hp => ?_)
  · rcases hx with ⟨rfl, hk⟩ | ⟨rfl, hk⟩
    · skip
      refine g_catch X [] ⟨0, 10, 13, 19⟩ [⟨0, 10, 17, 27⟩] htab (fun z hz => by cases hz) rfl (by decide) kX_L_19 (by decide +kernel) hP1 hD1 hS1 hl1 hce hcv hcl ?_
      refine g_astore X [(4, .ref q9), (0, .ref (ad 0)), (1, .int x), (2, .int y), (3, .ref (ad 48))] dL_permit_13 (by omega) rfl ?_
      refine g_iconst X (v := nI 1) dL_permit_15 (by decide) ?_
      exact g_iret X hr hlk (Nat.le_of_ble_eq_true rfl) (Nat.le_of_ble_eq_true rfl) dL_permit_16 ⟨by rw [hk], fun k _ => by rw [(xz_per).resolve_left (by rw [hk]; decide)], fun h => by rw [hk] at h; cases h⟩
    · skip
      refine g_catch X [⟨0, 10, 13, 19⟩] ⟨0, 10, 17, 27⟩ [] htab (fun z hz => by obtain rfl := List.mem_singleton.mp hz; exact Or.inr ⟨by decide, "java/lang/IndexOutOfBoundsException", kX_L_19, hC ("java/lang/IllegalArgumentException", "java/lang/IndexOutOfBoundsException") (by decide +kernel)⟩) rfl (by decide) kX_L_27 (by decide +kernel) hP1 hD1 hS1 hl1 hce hcv hcl ?_
      refine g_astore X [(4, .ref q9), (0, .ref (ad 0)), (1, .int x), (2, .int y), (3, .ref (ad 48))] dL_permit_17 (by omega) rfl ?_
      refine g_iconst X (v := nI 2) dL_permit_19 (by decide) ?_
      exact g_iret X hr hlk (Nat.le_of_ble_eq_true rfl) (Nat.le_of_ble_eq_true rfl) dL_permit_20 ⟨by rw [hk], fun k _ => by rw [(xz_per).resolve_left (by rw [hk]; decide)], fun h => by rw [hk] at h; cases h⟩
  · refine g_i2l X dL_permit_8 ?_
    refine g_last X 48 (by omega) lW_out (pk_in 0 1 (by omega) rfl) dL_permit_9 (fun ρ2 e2 => ?_)
    refine g_goto X 21 dL_permit_10 (by decide) ?_
    refine g_iconst X (v := nI 0) dL_permit_21 (by decide) ?_
    exact g_iret X hr hlk (Nat.le_of_ble_eq_true rfl) (Nat.le_of_ble_eq_true rfl) dL_permit_22 ⟨by rw [hp], fun k hk => by rw [hp, e2]; funext j; rw [up2_k (by omega), gBack_all hk], fun _ => by rw [hp, e2]; exact up2_s⟩
theorem xz_dam {ρ : gSt} {x y : Int32} : (damF ρ x y).1 = 0 ∨ (damF ρ x y).2.2 = ρ := by
  unfold damF
  repeat' split
  all_goals first | exact Or.inl rfl | exact Or.inr rfl
theorem c_L_setDamp (l : Launch) (hl0 : l.stackTraces = false) (D : va_G) (cy : Nat → ClassId) (ad : Nat → Nat) (ρ : Nat → Nat → Int32) (N T S d : Nat) (hI : Inv ρ N T S d) (x y : Int32) : gMH l yL_setDamp cL_setDamp 5 [(0, 10, 13, 19), (0, 10, 17, 27)] { frames := 7, cells := 3, slots := 18, locals := 113 } D cy 49 ad (cW ad cy) [.ref (ad 0), .int x, .int y, .ref (ad 48)] ρ (fun r ρ1 => r = nI (damF ρ x y).1 ∧ (∀ k, k < 48 → ρ1 k = (damF ρ x y).2.2 k) ∧ ((damF ρ x y).1 = 0 → ρ1 48 0 = (damF ρ x y).2.1)) 3 18 := by
  refine gMH_of RL rfl (by decide +kernel) (Nat.le_of_ble_eq_true rfl) (ls := [(0, .ref (ad 0)), (1, .int x), (2, .int y), (3, .ref (ad 48))]) rfl (fun p e s m args below meth c A X hE hC htab hr hlk => ?_)
  refine g_aload_n X dL_setDamp_0 3 rfl rfl ?_
  refine g_iconst X (v := 0) dL_setDamp_1 (by decide) ?_
  refine g_aload_n X dL_setDamp_2 0 rfl rfl ?_
  refine g_iload_n X dL_setDamp_3 1 rfl rfl ?_
  refine g_iload_n X dL_setDamp_4 2 rfl rfl ?_
  refine g_xcallVi_at X hE 0 0 (by rw [gOff0]; exact c_X3_setDamp l hl0 D cy ad ρ N T S d hI x y) kl_L_32 ⟨rfl, rfl, Nat.le_of_ble_eq_true rfl, Nat.le_of_ble_eq_true rfl⟩ gSubW (by omega) lW_O kv_X3 rfl rfl (Nat.le_of_ble_eq_true rfl) dL_setDamp_5 ⟨Nat.le_of_ble_eq_true rfl, Nat.le_of_ble_eq_true rfl⟩ (fun E ce q9 H1 locs1 la hx hP1 hD1 hS1 hl1 hce hcv hcl => ?_) (fun r ρ1 hp => ?_)
  · rcases hx with ⟨rfl, hk⟩ | ⟨rfl, hk⟩
    · skip
      refine g_catch X [] ⟨0, 10, 13, 19⟩ [⟨0, 10, 17, 27⟩] htab (fun z hz => by cases hz) rfl (by decide) kX_L_19 (by decide +kernel) hP1 hD1 hS1 hl1 hce hcv hcl ?_
      refine g_astore X [(4, .ref q9), (0, .ref (ad 0)), (1, .int x), (2, .int y), (3, .ref (ad 48))] dL_setDamp_13 (by omega) rfl ?_
      refine g_iconst X (v := nI 1) dL_setDamp_15 (by decide) ?_
      exact g_iret X hr hlk (Nat.le_of_ble_eq_true rfl) (Nat.le_of_ble_eq_true rfl) dL_setDamp_16 ⟨by rw [hk], fun k _ => by rw [(xz_dam).resolve_left (by rw [hk]; decide)], fun h => by rw [hk] at h; cases h⟩
    · skip
      refine g_catch X [⟨0, 10, 13, 19⟩] ⟨0, 10, 17, 27⟩ [] htab (fun z hz => by obtain rfl := List.mem_singleton.mp hz; exact Or.inr ⟨by decide, "java/lang/IndexOutOfBoundsException", kX_L_19, hC ("java/lang/IllegalArgumentException", "java/lang/IndexOutOfBoundsException") (by decide +kernel)⟩) rfl (by decide) kX_L_27 (by decide +kernel) hP1 hD1 hS1 hl1 hce hcv hcl ?_
      refine g_astore X [(4, .ref q9), (0, .ref (ad 0)), (1, .int x), (2, .int y), (3, .ref (ad 48))] dL_setDamp_17 (by omega) rfl ?_
      refine g_iconst X (v := nI 2) dL_setDamp_19 (by decide) ?_
      exact g_iret X hr hlk (Nat.le_of_ble_eq_true rfl) (Nat.le_of_ble_eq_true rfl) dL_setDamp_20 ⟨by rw [hk], fun k _ => by rw [(xz_dam).resolve_left (by rw [hk]; decide)], fun h => by rw [hk] at h; cases h⟩
  · refine g_i2l X dL_setDamp_8 ?_
    refine g_last X 48 (by omega) lW_out (pk_in 0 1 (by omega) rfl) dL_setDamp_9 (fun ρ2 e2 => ?_)
    refine g_goto X 21 dL_setDamp_10 (by decide) ?_
    refine g_iconst X (v := nI 0) dL_setDamp_21 (by decide) ?_
    exact g_iret X hr hlk (Nat.le_of_ble_eq_true rfl) (Nat.le_of_ble_eq_true rfl) dL_setDamp_22 ⟨by rw [hp], fun k hk => by rw [hp, e2]; funext j; rw [up2_k (by omega), gBack_all hk], fun _ => by rw [hp, e2]; exact up2_s⟩
theorem xz_pla {ρ : gSt} {x y : Int32} : (plaF ρ x y).1 = 0 ∨ (plaF ρ x y).2.2 = ρ := by
  unfold plaF
  repeat' split
  all_goals first | exact Or.inl rfl | exact Or.inr rfl
theorem c_L_play (l : Launch) (hl0 : l.stackTraces = false) (D : va_G) (cy : Nat → ClassId) (ad : Nat → Nat) (ρ : Nat → Nat → Int32) (N T S d : Nat) (hI : Inv ρ N T S d) (x y : Int32) : gMH l yL_play cL_play 5 [(0, 10, 13, 19), (0, 10, 17, 13)] { frames := 8, cells := 3, slots := 18, locals := 134 } D cy 49 ad (cW ad cy) [.ref (ad 0), .int x, .int y, .ref (ad 48)] ρ (fun r ρ1 => r = nI (plaF ρ x y).1 ∧ (∀ k, k < 48 → ρ1 k = (plaF ρ x y).2.2 k) ∧ ((plaF ρ x y).1 = 0 → ρ1 48 0 = (plaF ρ x y).2.1)) 3 18 := by
  refine gMH_of RL rfl (by decide +kernel) (Nat.le_of_ble_eq_true rfl) (ls := [(0, .ref (ad 0)), (1, .int x), (2, .int y), (3, .ref (ad 48))]) rfl (fun p e s m args below meth c A X hE hC htab hr hlk => ?_)
  refine g_aload_n X dL_play_0 3 rfl rfl ?_
  refine g_iconst X (v := 0) dL_play_1 (by decide) ?_
  refine g_aload_n X dL_play_2 0 rfl rfl ?_
  refine g_iload_n X dL_play_3 1 rfl rfl ?_
  refine g_iload_n X dL_play_4 2 rfl rfl ?_
  refine g_xcallVi_at X hE 0 0 (by rw [gOff0]; exact c_X3_play l hl0 D cy ad ρ N T S d hI x y) kl_L_35 ⟨rfl, rfl, Nat.le_of_ble_eq_true rfl, Nat.le_of_ble_eq_true rfl⟩ gSubW (by omega) lW_O kv_X3 rfl rfl (Nat.le_of_ble_eq_true rfl) dL_play_5 ⟨Nat.le_of_ble_eq_true rfl, Nat.le_of_ble_eq_true rfl⟩ (fun E ce q9 H1 locs1 la hx hP1 hD1 hS1 hl1 hce hcv hcl => ?_) (fun r ρ1 hp => ?_)
  · rcases hx with ⟨rfl, hk⟩ | ⟨rfl, hk⟩
    · skip
      refine g_catch X [] ⟨0, 10, 13, 19⟩ [⟨0, 10, 17, 13⟩] htab (fun z hz => by cases hz) rfl (by decide) kX_L_19 (by decide +kernel) hP1 hD1 hS1 hl1 hce hcv hcl ?_
      refine g_astore X [(4, .ref q9), (0, .ref (ad 0)), (1, .int x), (2, .int y), (3, .ref (ad 48))] dL_play_13 (by omega) rfl ?_
      refine g_iconst X (v := nI 1) dL_play_15 (by decide) ?_
      exact g_iret X hr hlk (Nat.le_of_ble_eq_true rfl) (Nat.le_of_ble_eq_true rfl) dL_play_16 ⟨by rw [hk], fun k _ => by rw [(xz_pla).resolve_left (by rw [hk]; decide)], fun h => by rw [hk] at h; cases h⟩
    · skip
      refine g_catch X [⟨0, 10, 13, 19⟩] ⟨0, 10, 17, 13⟩ [] htab (fun z hz => by obtain rfl := List.mem_singleton.mp hz; exact Or.inr ⟨by decide, "java/lang/IndexOutOfBoundsException", kX_L_19, hC ("java/lang/IllegalStateException", "java/lang/IndexOutOfBoundsException") (by decide +kernel)⟩) rfl (by decide) kX_L_13 (by decide +kernel) hP1 hD1 hS1 hl1 hce hcv hcl ?_
      refine g_astore X [(4, .ref q9), (0, .ref (ad 0)), (1, .int x), (2, .int y), (3, .ref (ad 48))] dL_play_17 (by omega) rfl ?_
      refine g_iconst X (v := nI 2) dL_play_19 (by decide) ?_
      exact g_iret X hr hlk (Nat.le_of_ble_eq_true rfl) (Nat.le_of_ble_eq_true rfl) dL_play_20 ⟨by rw [hk], fun k _ => by rw [(xz_pla).resolve_left (by rw [hk]; decide)], fun h => by rw [hk] at h; cases h⟩
  · refine g_i2l X dL_play_8 ?_
    refine g_last X 48 (by omega) lW_out (pk_in 0 1 (by omega) rfl) dL_play_9 (fun ρ2 e2 => ?_)
    refine g_goto X 21 dL_play_10 (by decide) ?_
    refine g_iconst X (v := nI 0) dL_play_21 (by decide) ?_
    exact g_iret X hr hlk (Nat.le_of_ble_eq_true rfl) (Nat.le_of_ble_eq_true rfl) dL_play_22 ⟨by rw [hp], fun k hk => by rw [hp, e2]; funext j; rw [up2_k (by omega), gBack_all hk], fun _ => by rw [hp, e2]; exact up2_s⟩
theorem xz_tun {ρ : gSt} {x y : Int32} : (tunF ρ x y).1 = 0 ∨ (tunF ρ x y).2.2 = ρ := by
  unfold tunF
  repeat' split
  all_goals first | exact Or.inl rfl | exact Or.inr rfl
theorem c_L_tune (l : Launch) (hl0 : l.stackTraces = false) (D : va_G) (cy : Nat → ClassId) (ad : Nat → Nat) (ρ : Nat → Nat → Int32) (N T S d : Nat) (hI : Inv ρ N T S d) (x y : Int32) : gMH l yL_tune cL_tune 5 [(0, 10, 13, 19), (0, 10, 17, 27)] { frames := 8, cells := 3, slots := 18, locals := 132 } D cy 49 ad (cW ad cy) [.ref (ad 0), .int x, .int y, .ref (ad 48)] ρ (fun r ρ1 => r = nI (tunF ρ x y).1 ∧ (∀ k, k < 48 → ρ1 k = (tunF ρ x y).2.2 k) ∧ ((tunF ρ x y).1 = 0 → ρ1 48 0 = (tunF ρ x y).2.1)) 3 18 := by
  refine gMH_of RL rfl (by decide +kernel) (Nat.le_of_ble_eq_true rfl) (ls := [(0, .ref (ad 0)), (1, .int x), (2, .int y), (3, .ref (ad 48))]) rfl (fun p e s m args below meth c A X hE hC htab hr hlk => ?_)
  refine g_aload_n X dL_tune_0 3 rfl rfl ?_
  refine g_iconst X (v := 0) dL_tune_1 (by decide) ?_
  refine g_aload_n X dL_tune_2 0 rfl rfl ?_
  refine g_iload_n X dL_tune_3 1 rfl rfl ?_
  refine g_iload_n X dL_tune_4 2 rfl rfl ?_
  refine g_xcallVi_at X hE 0 0 (by rw [gOff0]; exact c_X3_tune l hl0 D cy ad ρ N T S d hI x y) kl_L_38 ⟨rfl, rfl, Nat.le_of_ble_eq_true rfl, Nat.le_of_ble_eq_true rfl⟩ gSubW (by omega) lW_O kv_X3 rfl rfl (Nat.le_of_ble_eq_true rfl) dL_tune_5 ⟨Nat.le_of_ble_eq_true rfl, Nat.le_of_ble_eq_true rfl⟩ (fun E ce q9 H1 locs1 la hx hP1 hD1 hS1 hl1 hce hcv hcl => ?_) (fun r ρ1 hp => ?_)
  · rcases hx with ⟨rfl, hk⟩ | ⟨rfl, hk⟩
    · skip
      refine g_catch X [] ⟨0, 10, 13, 19⟩ [⟨0, 10, 17, 27⟩] htab (fun z hz => by cases hz) rfl (by decide) kX_L_19 (by decide +kernel) hP1 hD1 hS1 hl1 hce hcv hcl ?_
      refine g_astore X [(4, .ref q9), (0, .ref (ad 0)), (1, .int x), (2, .int y), (3, .ref (ad 48))] dL_tune_13 (by omega) rfl ?_
      refine g_iconst X (v := nI 1) dL_tune_15 (by decide) ?_
      exact g_iret X hr hlk (Nat.le_of_ble_eq_true rfl) (Nat.le_of_ble_eq_true rfl) dL_tune_16 ⟨by rw [hk], fun k _ => by rw [(xz_tun).resolve_left (by rw [hk]; decide)], fun h => by rw [hk] at h; cases h⟩
    · skip
      refine g_catch X [⟨0, 10, 13, 19⟩] ⟨0, 10, 17, 27⟩ [] htab (fun z hz => by obtain rfl := List.mem_singleton.mp hz; exact Or.inr ⟨by decide, "java/lang/IndexOutOfBoundsException", kX_L_19, hC ("java/lang/IllegalArgumentException", "java/lang/IndexOutOfBoundsException") (by decide +kernel)⟩) rfl (by decide) kX_L_27 (by decide +kernel) hP1 hD1 hS1 hl1 hce hcv hcl ?_
      refine g_astore X [(4, .ref q9), (0, .ref (ad 0)), (1, .int x), (2, .int y), (3, .ref (ad 48))] dL_tune_17 (by omega) rfl ?_
      refine g_iconst X (v := nI 2) dL_tune_19 (by decide) ?_
      exact g_iret X hr hlk (Nat.le_of_ble_eq_true rfl) (Nat.le_of_ble_eq_true rfl) dL_tune_20 ⟨by rw [hk], fun k _ => by rw [(xz_tun).resolve_left (by rw [hk]; decide)], fun h => by rw [hk] at h; cases h⟩
  · refine g_i2l X dL_tune_8 ?_
    refine g_last X 48 (by omega) lW_out (pk_in 0 1 (by omega) rfl) dL_tune_9 (fun ρ2 e2 => ?_)
    refine g_goto X 21 dL_tune_10 (by decide) ?_
    refine g_iconst X (v := nI 0) dL_tune_21 (by decide) ?_
    exact g_iret X hr hlk (Nat.le_of_ble_eq_true rfl) (Nat.le_of_ble_eq_true rfl) dL_tune_22 ⟨by rw [hp], fun k hk => by rw [hp, e2]; funext j; rw [up2_k (by omega), gBack_all hk], fun _ => by rw [hp, e2]; exact up2_s⟩
theorem xz_fel {ρ : gSt} {x : Int32} : (felF ρ x).1 = 0 ∨ (felF ρ x).2.2 = ρ := by
  unfold felF
  repeat' split
  all_goals first | exact Or.inl rfl | exact Or.inr rfl
theorem c_L_felt (l : Launch) (hl0 : l.stackTraces = false) (D : va_G) (cy : Nat → ClassId) (ad : Nat → Nat) (ρ : Nat → Nat → Int32) (N T S d : Nat) (hI : Inv ρ N T S d) (x : Int32) : gMH l yL_felt cL_felt 4 [(0, 9, 12, 19), (0, 9, 15, 13)] { frames := 8, cells := 3, slots := 18, locals := 132 } D cy 49 ad (cW ad cy) [.ref (ad 0), .int x, .ref (ad 48)] ρ (fun r ρ1 => r = nI (felF ρ x).1 ∧ (∀ k, k < 48 → ρ1 k = (felF ρ x).2.2 k) ∧ ((felF ρ x).1 = 0 → ρ1 48 0 = (felF ρ x).2.1)) 3 18 := by
  refine gMH_of RL rfl (by decide +kernel) (Nat.le_of_ble_eq_true rfl) (ls := [(0, .ref (ad 0)), (1, .int x), (2, .ref (ad 48))]) rfl (fun p e s m args below meth c A X hE hC htab hr hlk => ?_)
  refine g_aload_n X dL_felt_0 2 rfl rfl ?_
  refine g_iconst X (v := 0) dL_felt_1 (by decide) ?_
  refine g_aload_n X dL_felt_2 0 rfl rfl ?_
  refine g_iload_n X dL_felt_3 1 rfl rfl ?_
  refine g_xcallVi_at X hE 0 0 (by rw [gOff0]; exact c_X3_felt l hl0 D cy ad ρ N T S d hI x) kl_L_41 ⟨rfl, rfl, Nat.le_of_ble_eq_true rfl, Nat.le_of_ble_eq_true rfl⟩ gSubW (by omega) lW_O kv_X3 rfl rfl (Nat.le_of_ble_eq_true rfl) dL_felt_4 ⟨Nat.le_of_ble_eq_true rfl, Nat.le_of_ble_eq_true rfl⟩ (fun E ce q9 H1 locs1 la hx hP1 hD1 hS1 hl1 hce hcv hcl => ?_) (fun r ρ1 hp => ?_)
  · rcases hx with ⟨rfl, hk⟩ | ⟨rfl, hk⟩
    · skip
      refine g_catch X [] ⟨0, 9, 12, 19⟩ [⟨0, 9, 15, 13⟩] htab (fun z hz => by cases hz) rfl (by decide) kX_L_19 (by decide +kernel) hP1 hD1 hS1 hl1 hce hcv hcl ?_
      refine g_astore_n X [(3, .ref q9), (0, .ref (ad 0)), (1, .int x), (2, .ref (ad 48))] dL_felt_12 rfl (by omega) rfl ?_
      refine g_iconst X (v := nI 1) dL_felt_13 (by decide) ?_
      exact g_iret X hr hlk (Nat.le_of_ble_eq_true rfl) (Nat.le_of_ble_eq_true rfl) dL_felt_14 ⟨by rw [hk], fun k _ => by rw [(xz_fel).resolve_left (by rw [hk]; decide)], fun h => by rw [hk] at h; cases h⟩
    · skip
      refine g_catch X [⟨0, 9, 12, 19⟩] ⟨0, 9, 15, 13⟩ [] htab (fun z hz => by obtain rfl := List.mem_singleton.mp hz; exact Or.inr ⟨by decide, "java/lang/IndexOutOfBoundsException", kX_L_19, hC ("java/lang/IllegalStateException", "java/lang/IndexOutOfBoundsException") (by decide +kernel)⟩) rfl (by decide) kX_L_13 (by decide +kernel) hP1 hD1 hS1 hl1 hce hcv hcl ?_
      refine g_astore_n X [(3, .ref q9), (0, .ref (ad 0)), (1, .int x), (2, .ref (ad 48))] dL_felt_15 rfl (by omega) rfl ?_
      refine g_iconst X (v := nI 2) dL_felt_16 (by decide) ?_
      exact g_iret X hr hlk (Nat.le_of_ble_eq_true rfl) (Nat.le_of_ble_eq_true rfl) dL_felt_17 ⟨by rw [hk], fun k _ => by rw [(xz_fel).resolve_left (by rw [hk]; decide)], fun h => by rw [hk] at h; cases h⟩
  · refine g_i2l X dL_felt_7 ?_
    refine g_last X 48 (by omega) lW_out (pk_in 0 1 (by omega) rfl) dL_felt_8 (fun ρ2 e2 => ?_)
    refine g_goto X 18 dL_felt_9 (by decide) ?_
    refine g_iconst X (v := nI 0) dL_felt_18 (by decide) ?_
    exact g_iret X hr hlk (Nat.le_of_ble_eq_true rfl) (Nat.le_of_ble_eq_true rfl) dL_felt_19 ⟨by rw [hp], fun k hk => by rw [hp, e2]; funext j; rw [up2_k (by omega), gBack_all hk], fun _ => by rw [hp, e2]; exact up2_s⟩
theorem xz_pip {ρ : gSt} {x y : Int32} : (pipF ρ x y).1 = 0 ∨ (pipF ρ x y).2.2 = ρ := by
  unfold pipF
  repeat' split
  all_goals first | exact Or.inl rfl | exact Or.inr rfl
theorem c_L_pipe (l : Launch) (hl0 : l.stackTraces = false) (D : va_G) (cy : Nat → ClassId) (ad : Nat → Nat) (ρ : Nat → Nat → Int32) (N T S d : Nat) (hI : Inv ρ N T S d) (x y : Int32) : gMH l yL_pipe cL_pipe 5 [(0, 10, 13, 19)] { frames := 8, cells := 3, slots := 18, locals := 132 } D cy 49 ad (cW ad cy) [.ref (ad 0), .int x, .int y, .ref (ad 48)] ρ (fun r ρ1 => r = nI (pipF ρ x y).1 ∧ (∀ k, k < 48 → ρ1 k = (pipF ρ x y).2.2 k) ∧ ((pipF ρ x y).1 = 0 → ρ1 48 0 = (pipF ρ x y).2.1)) 3 18 := by
  refine gMH_of RL rfl (by decide +kernel) (Nat.le_of_ble_eq_true rfl) (ls := [(0, .ref (ad 0)), (1, .int x), (2, .int y), (3, .ref (ad 48))]) rfl (fun p e s m args below meth c A X hE hC htab hr hlk => ?_)
  refine g_aload_n X dL_pipe_0 3 rfl rfl ?_
  refine g_iconst X (v := 0) dL_pipe_1 (by decide) ?_
  refine g_aload_n X dL_pipe_2 0 rfl rfl ?_
  refine g_iload_n X dL_pipe_3 1 rfl rfl ?_
  refine g_iload_n X dL_pipe_4 2 rfl rfl ?_
  refine g_xcallVi_at X hE 0 0 (by rw [gOff0]; exact c_X3_pipe l hl0 D cy ad ρ N T S d hI x y) kl_L_45 ⟨rfl, rfl, Nat.le_of_ble_eq_true rfl, Nat.le_of_ble_eq_true rfl⟩ gSubW (by omega) lW_O kv_X3 rfl rfl (Nat.le_of_ble_eq_true rfl) dL_pipe_5 ⟨Nat.le_of_ble_eq_true rfl, Nat.le_of_ble_eq_true rfl⟩ (fun E ce q9 H1 locs1 la hx hP1 hD1 hS1 hl1 hce hcv hcl => ?_) (fun r ρ1 hp => ?_)
  · obtain ⟨rfl, hk⟩ := hx
    refine g_catch X [] ⟨0, 10, 13, 19⟩ [] htab (fun z hz => by cases hz) rfl (by decide) kX_L_19 (by decide +kernel) hP1 hD1 hS1 hl1 hce hcv hcl ?_
    refine g_astore X [(4, .ref q9), (0, .ref (ad 0)), (1, .int x), (2, .int y), (3, .ref (ad 48))] dL_pipe_13 (by omega) rfl ?_
    refine g_iconst X (v := nI 1) dL_pipe_15 (by decide) ?_
    exact g_iret X hr hlk (Nat.le_of_ble_eq_true rfl) (Nat.le_of_ble_eq_true rfl) dL_pipe_16 ⟨by rw [hk], fun k _ => by rw [(xz_pip).resolve_left (by rw [hk]; decide)], fun h => by rw [hk] at h; cases h⟩
  · refine g_i2l X dL_pipe_8 ?_
    refine g_last X 48 (by omega) lW_out (pk_in 0 1 (by omega) rfl) dL_pipe_9 (fun ρ2 e2 => ?_)
    refine g_goto X 17 dL_pipe_10 (by decide) ?_
    refine g_iconst X (v := nI 0) dL_pipe_17 (by decide) ?_
    exact g_iret X hr hlk (Nat.le_of_ble_eq_true rfl) (Nat.le_of_ble_eq_true rfl) dL_pipe_18 ⟨by rw [hp], fun k hk => by rw [hp, e2]; funext j; rw [up2_k (by omega), gBack_all hk], fun _ => by rw [hp, e2]; exact up2_s⟩
theorem xz_sou {ρ : gSt} {x : Int32} : (souF ρ x).1 = 0 ∨ (souF ρ x).2.2 = ρ := by
  unfold souF
  repeat' split
  all_goals first | exact Or.inl rfl | exact Or.inr rfl
theorem c_L_sound (l : Launch) (hl0 : l.stackTraces = false) (D : va_G) (cy : Nat → ClassId) (ad : Nat → Nat) (ρ : Nat → Nat → Int32) (N T S d : Nat) (hI : Inv ρ N T S d) (x : Int32) : gMH l yL_sound cL_sound 4 [(0, 9, 12, 19)] { frames := 8, cells := 3, slots := 18, locals := 132 } D cy 49 ad (cW ad cy) [.ref (ad 0), .int x, .ref (ad 48)] ρ (fun r ρ1 => r = nI (souF ρ x).1 ∧ (∀ k, k < 48 → ρ1 k = (souF ρ x).2.2 k) ∧ ((souF ρ x).1 = 0 → ρ1 48 0 = (souF ρ x).2.1)) 3 18 := by
  refine gMH_of RL rfl (by decide +kernel) (Nat.le_of_ble_eq_true rfl) (ls := [(0, .ref (ad 0)), (1, .int x), (2, .ref (ad 48))]) rfl (fun p e s m args below meth c A X hE hC htab hr hlk => ?_)
  refine g_aload_n X dL_sound_0 2 rfl rfl ?_
  refine g_iconst X (v := 0) dL_sound_1 (by decide) ?_
  refine g_aload_n X dL_sound_2 0 rfl rfl ?_
  refine g_iload_n X dL_sound_3 1 rfl rfl ?_
  refine g_xcallVi_at X hE 0 0 (by rw [gOff0]; exact c_X3_sound l hl0 D cy ad ρ N T S d hI x) kl_L_48 ⟨rfl, rfl, Nat.le_of_ble_eq_true rfl, Nat.le_of_ble_eq_true rfl⟩ gSubW (by omega) lW_O kv_X3 rfl rfl (Nat.le_of_ble_eq_true rfl) dL_sound_4 ⟨Nat.le_of_ble_eq_true rfl, Nat.le_of_ble_eq_true rfl⟩ (fun E ce q9 H1 locs1 la hx hP1 hD1 hS1 hl1 hce hcv hcl => ?_) (fun r ρ1 hp => ?_)
  · obtain ⟨rfl, hk⟩ := hx
    refine g_catch X [] ⟨0, 9, 12, 19⟩ [] htab (fun z hz => by cases hz) rfl (by decide) kX_L_19 (by decide +kernel) hP1 hD1 hS1 hl1 hce hcv hcl ?_
    refine g_astore_n X [(3, .ref q9), (0, .ref (ad 0)), (1, .int x), (2, .ref (ad 48))] dL_sound_12 rfl (by omega) rfl ?_
    refine g_iconst X (v := nI 1) dL_sound_13 (by decide) ?_
    exact g_iret X hr hlk (Nat.le_of_ble_eq_true rfl) (Nat.le_of_ble_eq_true rfl) dL_sound_14 ⟨by rw [hk], fun k _ => by rw [(xz_sou).resolve_left (by rw [hk]; decide)], fun h => by rw [hk] at h; cases h⟩
  · refine g_i2l X dL_sound_7 ?_
    refine g_last X 48 (by omega) lW_out (pk_in 0 1 (by omega) rfl) dL_sound_8 (fun ρ2 e2 => ?_)
    refine g_goto X 15 dL_sound_9 (by decide) ?_
    refine g_iconst X (v := nI 0) dL_sound_15 (by decide) ?_
    exact g_iret X hr hlk (Nat.le_of_ble_eq_true rfl) (Nat.le_of_ble_eq_true rfl) dL_sound_16 ⟨by rw [hp], fun k hk => by rw [hp, e2]; funext j; rw [up2_k (by omega), gBack_all hk], fun _ => by rw [hp, e2]; exact up2_s⟩
theorem xz_tol {ρ : gSt} {x y : Int32} : (tolF ρ x y).1 = 0 ∨ (tolF ρ x y).2.2 = ρ := by
  unfold tolF
  repeat' split
  all_goals first | exact Or.inl rfl | exact Or.inr rfl
theorem c_L_told (l : Launch) (hl0 : l.stackTraces = false) (D : va_G) (cy : Nat → ClassId) (ad : Nat → Nat) (ρ : Nat → Nat → Int32) (N T S d : Nat) (hI : Inv ρ N T S d) (x y : Int32) : gMH l yL_told cL_told 5 [(0, 10, 13, 19)] { frames := 8, cells := 3, slots := 18, locals := 133 } D cy 49 ad (cW ad cy) [.ref (ad 0), .int x, .int y, .ref (ad 48)] ρ (fun r ρ1 => r = nI (tolF ρ x y).1 ∧ (∀ k, k < 48 → ρ1 k = (tolF ρ x y).2.2 k) ∧ ((tolF ρ x y).1 = 0 → ρ1 48 0 = (tolF ρ x y).2.1)) 3 18 := by
  refine gMH_of RL rfl (by decide +kernel) (Nat.le_of_ble_eq_true rfl) (ls := [(0, .ref (ad 0)), (1, .int x), (2, .int y), (3, .ref (ad 48))]) rfl (fun p e s m args below meth c A X hE hC htab hr hlk => ?_)
  refine g_aload_n X dL_told_0 3 rfl rfl ?_
  refine g_iconst X (v := 0) dL_told_1 (by decide) ?_
  refine g_aload_n X dL_told_2 0 rfl rfl ?_
  refine g_iload_n X dL_told_3 1 rfl rfl ?_
  refine g_iload_n X dL_told_4 2 rfl rfl ?_
  refine g_xcallVi_at X hE 0 0 (by rw [gOff0]; exact c_X3_told l hl0 D cy ad ρ N T S d hI x y) kl_L_51 ⟨rfl, rfl, Nat.le_of_ble_eq_true rfl, Nat.le_of_ble_eq_true rfl⟩ gSubW (by omega) lW_O kv_X3 rfl rfl (Nat.le_of_ble_eq_true rfl) dL_told_5 ⟨Nat.le_of_ble_eq_true rfl, Nat.le_of_ble_eq_true rfl⟩ (fun E ce q9 H1 locs1 la hx hP1 hD1 hS1 hl1 hce hcv hcl => ?_) (fun r ρ1 hp => ?_)
  · obtain ⟨rfl, hk⟩ := hx
    refine g_catch X [] ⟨0, 10, 13, 19⟩ [] htab (fun z hz => by cases hz) rfl (by decide) kX_L_19 (by decide +kernel) hP1 hD1 hS1 hl1 hce hcv hcl ?_
    refine g_astore X [(4, .ref q9), (0, .ref (ad 0)), (1, .int x), (2, .int y), (3, .ref (ad 48))] dL_told_13 (by omega) rfl ?_
    refine g_iconst X (v := nI 1) dL_told_15 (by decide) ?_
    exact g_iret X hr hlk (Nat.le_of_ble_eq_true rfl) (Nat.le_of_ble_eq_true rfl) dL_told_16 ⟨by rw [hk], fun k _ => by rw [(xz_tol).resolve_left (by rw [hk]; decide)], fun h => by rw [hk] at h; cases h⟩
  · refine g_i2l X dL_told_8 ?_
    refine g_last X 48 (by omega) lW_out (pk_in 0 1 (by omega) rfl) dL_told_9 (fun ρ2 e2 => ?_)
    refine g_goto X 17 dL_told_10 (by decide) ?_
    refine g_iconst X (v := nI 0) dL_told_17 (by decide) ?_
    exact g_iret X hr hlk (Nat.le_of_ble_eq_true rfl) (Nat.le_of_ble_eq_true rfl) dL_told_18 ⟨by rw [hp], fun k hk => by rw [hp, e2]; funext j; rw [up2_k (by omega), gBack_all hk], fun _ => by rw [hp, e2]; exact up2_s⟩
theorem xz_cou {ρ : gSt} {x : Int32} : (couF ρ x).1 = 0 ∨ (couF ρ x).2.2 = ρ := by
  unfold couF
  repeat' split
  all_goals first | exact Or.inl rfl | exact Or.inr rfl
theorem c_L_count (l : Launch) (hl0 : l.stackTraces = false) (D : va_G) (cy : Nat → ClassId) (ad : Nat → Nat) (ρ : Nat → Nat → Int32) (N T S d : Nat) (hI : Inv ρ N T S d) (x : Int32) : gMH l yL_count cL_count 4 [(0, 9, 12, 19)] { frames := 7, cells := 3, slots := 18, locals := 111 } D cy 49 ad (cW ad cy) [.ref (ad 0), .int x, .ref (ad 48)] ρ (fun r ρ1 => r = nI (couF ρ x).1 ∧ (∀ k, k < 48 → ρ1 k = (couF ρ x).2.2 k) ∧ ((couF ρ x).1 = 0 → ρ1 48 0 = (couF ρ x).2.1)) 3 18 := by
  refine gMH_of RL rfl (by decide +kernel) (Nat.le_of_ble_eq_true rfl) (ls := [(0, .ref (ad 0)), (1, .int x), (2, .ref (ad 48))]) rfl (fun p e s m args below meth c A X hE hC htab hr hlk => ?_)
  refine g_aload_n X dL_count_0 2 rfl rfl ?_
  refine g_iconst X (v := 0) dL_count_1 (by decide) ?_
  refine g_aload_n X dL_count_2 0 rfl rfl ?_
  refine g_iload_n X dL_count_3 1 rfl rfl ?_
  refine g_xcallVi_at X hE 0 0 (by rw [gOff0]; exact c_X3_count l hl0 D cy ad ρ N T S d hI x) kl_L_54 ⟨rfl, rfl, Nat.le_of_ble_eq_true rfl, Nat.le_of_ble_eq_true rfl⟩ gSubW (by omega) lW_O kv_X3 rfl rfl (Nat.le_of_ble_eq_true rfl) dL_count_4 ⟨Nat.le_of_ble_eq_true rfl, Nat.le_of_ble_eq_true rfl⟩ (fun E ce q9 H1 locs1 la hx hP1 hD1 hS1 hl1 hce hcv hcl => ?_) (fun r ρ1 hp => ?_)
  · obtain ⟨rfl, hk⟩ := hx
    refine g_catch X [] ⟨0, 9, 12, 19⟩ [] htab (fun z hz => by cases hz) rfl (by decide) kX_L_19 (by decide +kernel) hP1 hD1 hS1 hl1 hce hcv hcl ?_
    refine g_astore_n X [(3, .ref q9), (0, .ref (ad 0)), (1, .int x), (2, .ref (ad 48))] dL_count_12 rfl (by omega) rfl ?_
    refine g_iconst X (v := nI 1) dL_count_13 (by decide) ?_
    exact g_iret X hr hlk (Nat.le_of_ble_eq_true rfl) (Nat.le_of_ble_eq_true rfl) dL_count_14 ⟨by rw [hk], fun k _ => by rw [(xz_cou).resolve_left (by rw [hk]; decide)], fun h => by rw [hk] at h; cases h⟩
  · refine g_i2l X dL_count_7 ?_
    refine g_last X 48 (by omega) lW_out (pk_in 0 1 (by omega) rfl) dL_count_8 (fun ρ2 e2 => ?_)
    refine g_goto X 15 dL_count_9 (by decide) ?_
    refine g_iconst X (v := nI 0) dL_count_15 (by decide) ?_
    exact g_iret X hr hlk (Nat.le_of_ble_eq_true rfl) (Nat.le_of_ble_eq_true rfl) dL_count_16 ⟨by rw [hp], fun k hk => by rw [hp, e2]; funext j; rw [up2_k (by omega), gBack_all hk], fun _ => by rw [hp, e2]; exact up2_s⟩
theorem xz_res {ρ : gSt} {x : Int32} : (resF ρ x).1 = 0 ∨ (resF ρ x).2.2 = ρ := by
  unfold resF
  repeat' split
  all_goals first | exact Or.inl rfl | exact Or.inr rfl
theorem c_L_rest (l : Launch) (hl0 : l.stackTraces = false) (D : va_G) (cy : Nat → ClassId) (ad : Nat → Nat) (ρ : Nat → Nat → Int32) (N T S d : Nat) (hI : Inv ρ N T S d) (x : Int32) : gMH l yL_rest cL_rest 4 [(0, 9, 12, 27)] { frames := 8, cells := 3, slots := 18, locals := 133 } D cy 49 ad (cW ad cy) [.ref (ad 0), .int x, .ref (ad 48)] ρ (fun r ρ1 => r = nI (resF ρ x).1 ∧ (∀ k, k < 48 → ρ1 k = (resF ρ x).2.2 k) ∧ ((resF ρ x).1 = 0 → ρ1 48 0 = (resF ρ x).2.1)) 3 18 := by
  refine gMH_of RL rfl (by decide +kernel) (Nat.le_of_ble_eq_true rfl) (ls := [(0, .ref (ad 0)), (1, .int x), (2, .ref (ad 48))]) rfl (fun p e s m args below meth c A X hE hC htab hr hlk => ?_)
  refine g_aload_n X dL_rest_0 2 rfl rfl ?_
  refine g_iconst X (v := 0) dL_rest_1 (by decide) ?_
  refine g_aload_n X dL_rest_2 0 rfl rfl ?_
  refine g_iload_n X dL_rest_3 1 rfl rfl ?_
  refine g_xcallVi_at X hE 0 0 (by rw [gOff0]; exact c_X3_rest l hl0 D cy ad ρ N T S d hI x) kl_L_57 ⟨rfl, rfl, Nat.le_of_ble_eq_true rfl, Nat.le_of_ble_eq_true rfl⟩ gSubW (by omega) lW_O kv_X3 rfl rfl (Nat.le_of_ble_eq_true rfl) dL_rest_4 ⟨Nat.le_of_ble_eq_true rfl, Nat.le_of_ble_eq_true rfl⟩ (fun E ce q9 H1 locs1 la hx hP1 hD1 hS1 hl1 hce hcv hcl => ?_) (fun r ρ1 hp => ?_)
  · obtain ⟨rfl, hk⟩ := hx
    refine g_catch X [] ⟨0, 9, 12, 27⟩ [] htab (fun z hz => by cases hz) rfl (by decide) kX_L_27 (by decide +kernel) hP1 hD1 hS1 hl1 hce hcv hcl ?_
    refine g_astore_n X [(3, .ref q9), (0, .ref (ad 0)), (1, .int x), (2, .ref (ad 48))] dL_rest_12 rfl (by omega) rfl ?_
    refine g_iconst X (v := nI 1) dL_rest_13 (by decide) ?_
    exact g_iret X hr hlk (Nat.le_of_ble_eq_true rfl) (Nat.le_of_ble_eq_true rfl) dL_rest_14 ⟨by rw [hk], fun k _ => by rw [(xz_res).resolve_left (by rw [hk]; decide)], fun h => by rw [hk] at h; cases h⟩
  · refine g_i2l X dL_rest_7 ?_
    refine g_last X 48 (by omega) lW_out (pk_in 0 1 (by omega) rfl) dL_rest_8 (fun ρ2 e2 => ?_)
    refine g_goto X 15 dL_rest_9 (by decide) ?_
    refine g_iconst X (v := nI 0) dL_rest_15 (by decide) ?_
    exact g_iret X hr hlk (Nat.le_of_ble_eq_true rfl) (Nat.le_of_ble_eq_true rfl) dL_rest_16 ⟨by rw [hp], fun k hk => by rw [hp, e2]; funext j; rw [up2_k (by omega), gBack_all hk], fun _ => by rw [hp, e2]; exact up2_s⟩
theorem xz_pay {ρ : gSt} {x y : Int32} : (payF ρ x y).1 = 0 ∨ (payF ρ x y).2.2 = ρ := by
  unfold payF
  repeat' split
  all_goals first | exact Or.inl rfl | exact Or.inr rfl
theorem c_L_pays (l : Launch) (hl0 : l.stackTraces = false) (D : va_G) (cy : Nat → ClassId) (ad : Nat → Nat) (ρ : Nat → Nat → Int32) (N T S d : Nat) (hI : Inv ρ N T S d) (x y : Int32) : gMH l yL_pays cL_pays 5 [(0, 10, 13, 19)] { frames := 8, cells := 3, slots := 18, locals := 133 } D cy 49 ad (cW ad cy) [.ref (ad 0), .int x, .int y, .ref (ad 48)] ρ (fun r ρ1 => r = nI (payF ρ x y).1 ∧ (∀ k, k < 48 → ρ1 k = (payF ρ x y).2.2 k) ∧ ((payF ρ x y).1 = 0 → ρ1 48 0 = (payF ρ x y).2.1)) 3 18 := by
  refine gMH_of RL rfl (by decide +kernel) (Nat.le_of_ble_eq_true rfl) (ls := [(0, .ref (ad 0)), (1, .int x), (2, .int y), (3, .ref (ad 48))]) rfl (fun p e s m args below meth c A X hE hC htab hr hlk => ?_)
  refine g_aload_n X dL_pays_0 3 rfl rfl ?_
  refine g_iconst X (v := 0) dL_pays_1 (by decide) ?_
  refine g_aload_n X dL_pays_2 0 rfl rfl ?_
  refine g_iload_n X dL_pays_3 1 rfl rfl ?_
  refine g_iload_n X dL_pays_4 2 rfl rfl ?_
  refine g_xcallVi_at X hE 0 0 (by rw [gOff0]; exact c_X3_pays l hl0 D cy ad ρ N T S d hI x y) kl_L_60 ⟨rfl, rfl, Nat.le_of_ble_eq_true rfl, Nat.le_of_ble_eq_true rfl⟩ gSubW (by omega) lW_O kv_X3 rfl rfl (Nat.le_of_ble_eq_true rfl) dL_pays_5 ⟨Nat.le_of_ble_eq_true rfl, Nat.le_of_ble_eq_true rfl⟩ (fun E ce q9 H1 locs1 la hx hP1 hD1 hS1 hl1 hce hcv hcl => ?_) (fun r ρ1 hp => ?_)
  · obtain ⟨rfl, hk⟩ := hx
    refine g_catch X [] ⟨0, 10, 13, 19⟩ [] htab (fun z hz => by cases hz) rfl (by decide) kX_L_19 (by decide +kernel) hP1 hD1 hS1 hl1 hce hcv hcl ?_
    refine g_astore X [(4, .ref q9), (0, .ref (ad 0)), (1, .int x), (2, .int y), (3, .ref (ad 48))] dL_pays_13 (by omega) rfl ?_
    refine g_iconst X (v := nI 1) dL_pays_15 (by decide) ?_
    exact g_iret X hr hlk (Nat.le_of_ble_eq_true rfl) (Nat.le_of_ble_eq_true rfl) dL_pays_16 ⟨by rw [hk], fun k _ => by rw [(xz_pay).resolve_left (by rw [hk]; decide)], fun h => by rw [hk] at h; cases h⟩
  · refine g_i2l X dL_pays_8 ?_
    refine g_last X 48 (by omega) lW_out (pk_in 0 1 (by omega) rfl) dL_pays_9 (fun ρ2 e2 => ?_)
    refine g_goto X 17 dL_pays_10 (by decide) ?_
    refine g_iconst X (v := nI 0) dL_pays_17 (by decide) ?_
    exact g_iret X hr hlk (Nat.le_of_ble_eq_true rfl) (Nat.le_of_ble_eq_true rfl) dL_pays_18 ⟨by rw [hp], fun k hk => by rw [hp, e2]; funext j; rw [up2_k (by omega), gBack_all hk], fun _ => by rw [hp, e2]; exact up2_s⟩
theorem xz_bes {ρ : gSt} {x : Int32} : (besF ρ x).1 = 0 ∨ (besF ρ x).2.2 = ρ := by
  unfold besF
  repeat' split
  all_goals first | exact Or.inl rfl | exact Or.inr rfl
theorem c_L_best (l : Launch) (hl0 : l.stackTraces = false) (D : va_G) (cy : Nat → ClassId) (ad : Nat → Nat) (ρ : Nat → Nat → Int32) (N T S d : Nat) (hI : Inv ρ N T S d) (x : Int32) : gMH l yL_best cL_best 4 [(0, 9, 12, 19)] { frames := 8, cells := 3, slots := 18, locals := 136 } D cy 49 ad (cW ad cy) [.ref (ad 0), .int x, .ref (ad 48)] ρ (fun r ρ1 => r = nI (besF ρ x).1 ∧ (∀ k, k < 48 → ρ1 k = (besF ρ x).2.2 k) ∧ ((besF ρ x).1 = 0 → ρ1 48 0 = (besF ρ x).2.1)) 3 18 := by
  refine gMH_of RL rfl (by decide +kernel) (Nat.le_of_ble_eq_true rfl) (ls := [(0, .ref (ad 0)), (1, .int x), (2, .ref (ad 48))]) rfl (fun p e s m args below meth c A X hE hC htab hr hlk => ?_)
  refine g_aload_n X dL_best_0 2 rfl rfl ?_
  refine g_iconst X (v := 0) dL_best_1 (by decide) ?_
  refine g_aload_n X dL_best_2 0 rfl rfl ?_
  refine g_iload_n X dL_best_3 1 rfl rfl ?_
  refine g_xcallVi_at X hE 0 0 (by rw [gOff0]; exact c_X3_best l hl0 D cy ad ρ N T S d hI x) kl_L_63 ⟨rfl, rfl, Nat.le_of_ble_eq_true rfl, Nat.le_of_ble_eq_true rfl⟩ gSubW (by omega) lW_O kv_X3 rfl rfl (Nat.le_of_ble_eq_true rfl) dL_best_4 ⟨Nat.le_of_ble_eq_true rfl, Nat.le_of_ble_eq_true rfl⟩ (fun E ce q9 H1 locs1 la hx hP1 hD1 hS1 hl1 hce hcv hcl => ?_) (fun r ρ1 hp => ?_)
  · obtain ⟨rfl, hk⟩ := hx
    refine g_catch X [] ⟨0, 9, 12, 19⟩ [] htab (fun z hz => by cases hz) rfl (by decide) kX_L_19 (by decide +kernel) hP1 hD1 hS1 hl1 hce hcv hcl ?_
    refine g_astore_n X [(3, .ref q9), (0, .ref (ad 0)), (1, .int x), (2, .ref (ad 48))] dL_best_12 rfl (by omega) rfl ?_
    refine g_iconst X (v := nI 1) dL_best_13 (by decide) ?_
    exact g_iret X hr hlk (Nat.le_of_ble_eq_true rfl) (Nat.le_of_ble_eq_true rfl) dL_best_14 ⟨by rw [hk], fun k _ => by rw [(xz_bes).resolve_left (by rw [hk]; decide)], fun h => by rw [hk] at h; cases h⟩
  · refine g_i2l X dL_best_7 ?_
    refine g_last X 48 (by omega) lW_out (pk_in 0 1 (by omega) rfl) dL_best_8 (fun ρ2 e2 => ?_)
    refine g_goto X 15 dL_best_9 (by decide) ?_
    refine g_iconst X (v := nI 0) dL_best_15 (by decide) ?_
    exact g_iret X hr hlk (Nat.le_of_ble_eq_true rfl) (Nat.le_of_ble_eq_true rfl) dL_best_16 ⟨by rw [hp], fun k hk => by rw [hp, e2]; funext j; rw [up2_k (by omega), gBack_all hk], fun _ => by rw [hp, e2]; exact up2_s⟩
theorem xz_wor {ρ : gSt} {x : Int32} : (worF ρ x).1 = 0 ∨ (worF ρ x).2.2 = ρ := by
  unfold worF
  repeat' split
  all_goals first | exact Or.inl rfl | exact Or.inr rfl
theorem c_L_worst (l : Launch) (hl0 : l.stackTraces = false) (D : va_G) (cy : Nat → ClassId) (ad : Nat → Nat) (ρ : Nat → Nat → Int32) (N T S d : Nat) (hI : Inv ρ N T S d) (x : Int32) : gMH l yL_worst cL_worst 4 [(0, 9, 12, 19)] { frames := 8, cells := 3, slots := 18, locals := 136 } D cy 49 ad (cW ad cy) [.ref (ad 0), .int x, .ref (ad 48)] ρ (fun r ρ1 => r = nI (worF ρ x).1 ∧ (∀ k, k < 48 → ρ1 k = (worF ρ x).2.2 k) ∧ ((worF ρ x).1 = 0 → ρ1 48 0 = (worF ρ x).2.1)) 3 18 := by
  refine gMH_of RL rfl (by decide +kernel) (Nat.le_of_ble_eq_true rfl) (ls := [(0, .ref (ad 0)), (1, .int x), (2, .ref (ad 48))]) rfl (fun p e s m args below meth c A X hE hC htab hr hlk => ?_)
  refine g_aload_n X dL_worst_0 2 rfl rfl ?_
  refine g_iconst X (v := 0) dL_worst_1 (by decide) ?_
  refine g_aload_n X dL_worst_2 0 rfl rfl ?_
  refine g_iload_n X dL_worst_3 1 rfl rfl ?_
  refine g_xcallVi_at X hE 0 0 (by rw [gOff0]; exact c_X3_worst l hl0 D cy ad ρ N T S d hI x) kl_L_66 ⟨rfl, rfl, Nat.le_of_ble_eq_true rfl, Nat.le_of_ble_eq_true rfl⟩ gSubW (by omega) lW_O kv_X3 rfl rfl (Nat.le_of_ble_eq_true rfl) dL_worst_4 ⟨Nat.le_of_ble_eq_true rfl, Nat.le_of_ble_eq_true rfl⟩ (fun E ce q9 H1 locs1 la hx hP1 hD1 hS1 hl1 hce hcv hcl => ?_) (fun r ρ1 hp => ?_)
  · obtain ⟨rfl, hk⟩ := hx
    refine g_catch X [] ⟨0, 9, 12, 19⟩ [] htab (fun z hz => by cases hz) rfl (by decide) kX_L_19 (by decide +kernel) hP1 hD1 hS1 hl1 hce hcv hcl ?_
    refine g_astore_n X [(3, .ref q9), (0, .ref (ad 0)), (1, .int x), (2, .ref (ad 48))] dL_worst_12 rfl (by omega) rfl ?_
    refine g_iconst X (v := nI 1) dL_worst_13 (by decide) ?_
    exact g_iret X hr hlk (Nat.le_of_ble_eq_true rfl) (Nat.le_of_ble_eq_true rfl) dL_worst_14 ⟨by rw [hk], fun k _ => by rw [(xz_wor).resolve_left (by rw [hk]; decide)], fun h => by rw [hk] at h; cases h⟩
  · refine g_i2l X dL_worst_7 ?_
    refine g_last X 48 (by omega) lW_out (pk_in 0 1 (by omega) rfl) dL_worst_8 (fun ρ2 e2 => ?_)
    refine g_goto X 15 dL_worst_9 (by decide) ?_
    refine g_iconst X (v := nI 0) dL_worst_15 (by decide) ?_
    exact g_iret X hr hlk (Nat.le_of_ble_eq_true rfl) (Nat.le_of_ble_eq_true rfl) dL_worst_16 ⟨by rw [hp], fun k hk => by rw [hp, e2]; funext j; rw [up2_k (by omega), gBack_all hk], fun _ => by rw [hp, e2]; exact up2_s⟩
theorem xz_for {ρ : gSt} {x y : Int32} : (forF ρ x y).1 = 0 ∨ (forF ρ x y).2.2 = ρ := by
  unfold forF
  repeat' split
  all_goals first | exact Or.inl rfl | exact Or.inr rfl
theorem c_L_foresee (l : Launch) (hl0 : l.stackTraces = false) (D : va_G) (cy : Nat → ClassId) (ad : Nat → Nat) (ρ : Nat → Nat → Int32) (N T S d : Nat) (hI : Inv ρ N T S d) (x y : Int32) : gMH l yL_foresee cL_foresee 5 [(0, 10, 13, 27), (0, 10, 17, 19)] { frames := 8, cells := 3, slots := 18, locals := 132 } D cy 49 ad (cW ad cy) [.ref (ad 0), .int x, .int y, .ref (ad 48)] ρ (fun r ρ1 => r = nI (forF ρ x y).1 ∧ (∀ k, k < 48 → ρ1 k = (forF ρ x y).2.2 k) ∧ ((forF ρ x y).1 = 0 → ρ1 48 0 = (forF ρ x y).2.1)) 3 18 := by
  refine gMH_of RL rfl (by decide +kernel) (Nat.le_of_ble_eq_true rfl) (ls := [(0, .ref (ad 0)), (1, .int x), (2, .int y), (3, .ref (ad 48))]) rfl (fun p e s m args below meth c A X hE hC htab hr hlk => ?_)
  refine g_aload_n X dL_foresee_0 3 rfl rfl ?_
  refine g_iconst X (v := 0) dL_foresee_1 (by decide) ?_
  refine g_aload_n X dL_foresee_2 0 rfl rfl ?_
  refine g_iload_n X dL_foresee_3 1 rfl rfl ?_
  refine g_iload_n X dL_foresee_4 2 rfl rfl ?_
  refine g_xcallVi_at X hE 0 0 (by rw [gOff0]; exact c_X3_foresee l hl0 D cy ad ρ N T S d hI x y) kl_L_69 ⟨rfl, rfl, Nat.le_of_ble_eq_true rfl, Nat.le_of_ble_eq_true rfl⟩ gSubW (by omega) lW_O kv_X3 rfl rfl (Nat.le_of_ble_eq_true rfl) dL_foresee_5 ⟨Nat.le_of_ble_eq_true rfl, Nat.le_of_ble_eq_true rfl⟩ (fun E ce q9 H1 locs1 la hx hP1 hD1 hS1 hl1 hce hcv hcl => ?_) (fun r ρ1 hp => ?_)
  · rcases hx with ⟨rfl, hk⟩ | ⟨rfl, hk⟩
    · skip
      refine g_catch X [] ⟨0, 10, 13, 27⟩ [⟨0, 10, 17, 19⟩] htab (fun z hz => by cases hz) rfl (by decide) kX_L_27 (by decide +kernel) hP1 hD1 hS1 hl1 hce hcv hcl ?_
      refine g_astore X [(4, .ref q9), (0, .ref (ad 0)), (1, .int x), (2, .int y), (3, .ref (ad 48))] dL_foresee_13 (by omega) rfl ?_
      refine g_iconst X (v := nI 1) dL_foresee_15 (by decide) ?_
      exact g_iret X hr hlk (Nat.le_of_ble_eq_true rfl) (Nat.le_of_ble_eq_true rfl) dL_foresee_16 ⟨by rw [hk], fun k _ => by rw [(xz_for).resolve_left (by rw [hk]; decide)], fun h => by rw [hk] at h; cases h⟩
    · skip
      refine g_catch X [⟨0, 10, 13, 27⟩] ⟨0, 10, 17, 19⟩ [] htab (fun z hz => by obtain rfl := List.mem_singleton.mp hz; exact Or.inr ⟨by decide, "java/lang/IllegalArgumentException", kX_L_27, hC ("java/lang/IndexOutOfBoundsException", "java/lang/IllegalArgumentException") (by decide +kernel)⟩) rfl (by decide) kX_L_19 (by decide +kernel) hP1 hD1 hS1 hl1 hce hcv hcl ?_
      refine g_astore X [(4, .ref q9), (0, .ref (ad 0)), (1, .int x), (2, .int y), (3, .ref (ad 48))] dL_foresee_17 (by omega) rfl ?_
      refine g_iconst X (v := nI 2) dL_foresee_19 (by decide) ?_
      exact g_iret X hr hlk (Nat.le_of_ble_eq_true rfl) (Nat.le_of_ble_eq_true rfl) dL_foresee_20 ⟨by rw [hk], fun k _ => by rw [(xz_for).resolve_left (by rw [hk]; decide)], fun h => by rw [hk] at h; cases h⟩
  · refine g_i2l X dL_foresee_8 ?_
    refine g_last X 48 (by omega) lW_out (pk_in 0 1 (by omega) rfl) dL_foresee_9 (fun ρ2 e2 => ?_)
    refine g_goto X 21 dL_foresee_10 (by decide) ?_
    refine g_iconst X (v := nI 0) dL_foresee_21 (by decide) ?_
    exact g_iret X hr hlk (Nat.le_of_ble_eq_true rfl) (Nat.le_of_ble_eq_true rfl) dL_foresee_22 ⟨by rw [hp], fun k hk => by rw [hp, e2]; funext j; rw [up2_k (by omega), gBack_all hk], fun _ => by rw [hp, e2]; exact up2_s⟩
theorem xz_las {ρ : gSt} {x : Int32} : (lasF ρ x).1 = 0 ∨ (lasF ρ x).2.2 = ρ := by
  unfold lasF
  repeat' split
  all_goals first | exact Or.inl rfl | exact Or.inr rfl
theorem c_L_lasts (l : Launch) (hl0 : l.stackTraces = false) (D : va_G) (cy : Nat → ClassId) (ad : Nat → Nat) (ρ : Nat → Nat → Int32) (N T S d : Nat) (hI : Inv ρ N T S d) (x : Int32) : gMH l yL_lasts cL_lasts 4 [(0, 9, 12, 19)] { frames := 8, cells := 3, slots := 18, locals := 133 } D cy 49 ad (cW ad cy) [.ref (ad 0), .int x, .ref (ad 48)] ρ (fun r ρ1 => r = nI (lasF ρ x).1 ∧ (∀ k, k < 48 → ρ1 k = (lasF ρ x).2.2 k) ∧ ((lasF ρ x).1 = 0 → ρ1 48 0 = (lasF ρ x).2.1)) 3 18 := by
  refine gMH_of RL rfl (by decide +kernel) (Nat.le_of_ble_eq_true rfl) (ls := [(0, .ref (ad 0)), (1, .int x), (2, .ref (ad 48))]) rfl (fun p e s m args below meth c A X hE hC htab hr hlk => ?_)
  refine g_aload_n X dL_lasts_0 2 rfl rfl ?_
  refine g_iconst X (v := 0) dL_lasts_1 (by decide) ?_
  refine g_aload_n X dL_lasts_2 0 rfl rfl ?_
  refine g_iload_n X dL_lasts_3 1 rfl rfl ?_
  refine g_xcallVi_at X hE 0 0 (by rw [gOff0]; exact c_X3_lasts l hl0 D cy ad ρ N T S d hI x) kl_L_72 ⟨rfl, rfl, Nat.le_of_ble_eq_true rfl, Nat.le_of_ble_eq_true rfl⟩ gSubW (by omega) lW_O kv_X3 rfl rfl (Nat.le_of_ble_eq_true rfl) dL_lasts_4 ⟨Nat.le_of_ble_eq_true rfl, Nat.le_of_ble_eq_true rfl⟩ (fun E ce q9 H1 locs1 la hx hP1 hD1 hS1 hl1 hce hcv hcl => ?_) (fun r ρ1 hp => ?_)
  · obtain ⟨rfl, hk⟩ := hx
    refine g_catch X [] ⟨0, 9, 12, 19⟩ [] htab (fun z hz => by cases hz) rfl (by decide) kX_L_19 (by decide +kernel) hP1 hD1 hS1 hl1 hce hcv hcl ?_
    refine g_astore_n X [(3, .ref q9), (0, .ref (ad 0)), (1, .int x), (2, .ref (ad 48))] dL_lasts_12 rfl (by omega) rfl ?_
    refine g_iconst X (v := nI 1) dL_lasts_13 (by decide) ?_
    exact g_iret X hr hlk (Nat.le_of_ble_eq_true rfl) (Nat.le_of_ble_eq_true rfl) dL_lasts_14 ⟨by rw [hk], fun k _ => by rw [(xz_las).resolve_left (by rw [hk]; decide)], fun h => by rw [hk] at h; cases h⟩
  · refine g_i2l X dL_lasts_7 ?_
    refine g_last X 48 (by omega) lW_out (pk_in 0 1 (by omega) rfl) dL_lasts_8 (fun ρ2 e2 => ?_)
    refine g_goto X 15 dL_lasts_9 (by decide) ?_
    refine g_iconst X (v := nI 0) dL_lasts_15 (by decide) ?_
    exact g_iret X hr hlk (Nat.le_of_ble_eq_true rfl) (Nat.le_of_ble_eq_true rfl) dL_lasts_16 ⟨by rw [hp], fun k hk => by rw [hp, e2]; funext j; rw [up2_k (by omega), gBack_all hk], fun _ => by rw [hp, e2]; exact up2_s⟩
