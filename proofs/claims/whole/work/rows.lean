section
-- ===== PART A: goes FIRST, ahead of the names: the tables' words, and 'selects' of the private methods out of them =====
/-- a private method of a class that the tables say can be made, by its rows of tables_1 -/
def lw_okq (q : MethodName × Nat) : Prop := (q.1.cls ≠ "java/lang/invoke/MethodHandle" ∧ q.1.cls ≠ "java/lang/invoke/VarHandle") ∧ Cond.instantiable q.1.cls q.2 ∈ tables_1 ∧ Cond.privateMethod q.1 ∈ tables_1 ∧ Cond.instanceMethod q.1 ∈ tables_1
theorem lw_p0 : lw_okq (⟨"StreetOrgans", "countNow", "(I)I"⟩, 10) := ⟨⟨by decide +kernel, by decide +kernel⟩, List.mem_of_getElem? (i := 17) (by decide +kernel), List.mem_of_getElem? (i := 161) (by decide +kernel), List.mem_of_getElem? (i := 162) (by decide +kernel)⟩
theorem lw_p1 : lw_okq (⟨"StreetOrgans", "mixTune", "(JLStreetOrgans$Tune;)J"⟩, 10) := ⟨⟨by decide +kernel, by decide +kernel⟩, List.mem_of_getElem? (i := 17) (by decide +kernel), List.mem_of_getElem? (i := 193) (by decide +kernel), List.mem_of_getElem? (i := 194) (by decide +kernel)⟩
theorem lw_p2 : lw_okq (⟨"StreetOrgans", "mixStreet", "(JI)J"⟩, 10) := ⟨⟨by decide +kernel, by decide +kernel⟩, List.mem_of_getElem? (i := 17) (by decide +kernel), List.mem_of_getElem? (i := 197) (by decide +kernel), List.mem_of_getElem? (i := 198) (by decide +kernel)⟩
theorem lw_p3 : lw_okq (⟨"StreetOrgans", "payNow", "(II)I"⟩, 10) := ⟨⟨by decide +kernel, by decide +kernel⟩, List.mem_of_getElem? (i := 17) (by decide +kernel), List.mem_of_getElem? (i := 213) (by decide +kernel), List.mem_of_getElem? (i := 214) (by decide +kernel)⟩
theorem lw_p4 : lw_okq (⟨"java/lang/Throwable", "fillInStackTrace", "(I)Ljava/lang/Throwable;"⟩, 6) := ⟨⟨by decide +kernel, by decide +kernel⟩, List.mem_of_getElem? (i := 267) (by decide +kernel), List.mem_of_getElem? (i := 265) (by decide +kernel), List.mem_of_getElem? (i := 266) (by decide +kernel)⟩
theorem lw_p5 : lw_okq (⟨"StreetOrgans", "checkTune", "(I)V"⟩, 10) := ⟨⟨by decide +kernel, by decide +kernel⟩, List.mem_of_getElem? (i := 17) (by decide +kernel), List.mem_of_getElem? (i := 305) (by decide +kernel), List.mem_of_getElem? (i := 306) (by decide +kernel)⟩
theorem lw_p6 : lw_okq (⟨"StreetOrgans", "checkStreet", "(I)V"⟩, 10) := ⟨⟨by decide +kernel, by decide +kernel⟩, List.mem_of_getElem? (i := 17) (by decide +kernel), List.mem_of_getElem? (i := 378) (by decide +kernel), List.mem_of_getElem? (i := 379) (by decide +kernel)⟩
theorem lw_p7 : lw_okq (⟨"StreetOrgans", "payFine", "()I"⟩, 10) := ⟨⟨by decide +kernel, by decide +kernel⟩, List.mem_of_getElem? (i := 17) (by decide +kernel), List.mem_of_getElem? (i := 401) (by decide +kernel), List.mem_of_getElem? (i := 402) (by decide +kernel)⟩
theorem lw_p8 : lw_okq (⟨"StreetOrgans", "passNights", "(LStreetOrgans$Pipes;I)I"⟩, 10) := ⟨⟨by decide +kernel, by decide +kernel⟩, List.mem_of_getElem? (i := 17) (by decide +kernel), List.mem_of_getElem? (i := 478) (by decide +kernel), List.mem_of_getElem? (i := 479) (by decide +kernel)⟩
theorem lw_p9 : lw_okq (⟨"StreetOrgansModel", "no", "(I)I"⟩, 14) := ⟨⟨by decide +kernel, by decide +kernel⟩, List.mem_of_getElem? (i := 532) (by decide +kernel), List.mem_of_getElem? (i := 616) (by decide +kernel), List.mem_of_getElem? (i := 617) (by decide +kernel)⟩
theorem lw_p10 : lw_okq (⟨"StreetOrgansModel", "isTune", "(I)Z"⟩, 14) := ⟨⟨by decide +kernel, by decide +kernel⟩, List.mem_of_getElem? (i := 532) (by decide +kernel), List.mem_of_getElem? (i := 624) (by decide +kernel), List.mem_of_getElem? (i := 625) (by decide +kernel)⟩
theorem lw_p11 : lw_okq (⟨"StreetOrgansModel", "isStreet", "(I)Z"⟩, 14) := ⟨⟨by decide +kernel, by decide +kernel⟩, List.mem_of_getElem? (i := 532) (by decide +kernel), List.mem_of_getElem? (i := 649) (by decide +kernel), List.mem_of_getElem? (i := 650) (by decide +kernel)⟩
theorem lw_p12 : lw_okq (⟨"StreetOrgansModel", "isPermitted", "(I)Z"⟩, 14) := ⟨⟨by decide +kernel, by decide +kernel⟩, List.mem_of_getElem? (i := 532) (by decide +kernel), List.mem_of_getElem? (i := 661) (by decide +kernel), List.mem_of_getElem? (i := 662) (by decide +kernel)⟩
theorem lw_p13 : lw_okq (⟨"StreetOrgansModel", "paysNow", "(II)I"⟩, 14) := ⟨⟨by decide +kernel, by decide +kernel⟩, List.mem_of_getElem? (i := 532) (by decide +kernel), List.mem_of_getElem? (i := 666) (by decide +kernel), List.mem_of_getElem? (i := 667) (by decide +kernel)⟩
theorem lw_p14 : lw_okq (⟨"StreetOrgansModel", "soundOf", "(ILStreetOrgansModel$Pipes;I)I"⟩, 14) := ⟨⟨by decide +kernel, by decide +kernel⟩, List.mem_of_getElem? (i := 532) (by decide +kernel), List.mem_of_getElem? (i := 670) (by decide +kernel), List.mem_of_getElem? (i := 671) (by decide +kernel)⟩
theorem lw_p15 : lw_okq (⟨"StreetOrgansModel", "sing", "(ILStreetOrgansModel$Pipes;)V"⟩, 14) := ⟨⟨by decide +kernel, by decide +kernel⟩, List.mem_of_getElem? (i := 532) (by decide +kernel), List.mem_of_getElem? (i := 680) (by decide +kernel), List.mem_of_getElem? (i := 681) (by decide +kernel)⟩
def lw_privs_1 : List (MethodName × Nat) := [(⟨"StreetOrgans", "countNow", "(I)I"⟩, 10), (⟨"StreetOrgans", "mixTune", "(JLStreetOrgans$Tune;)J"⟩, 10), (⟨"StreetOrgans", "mixStreet", "(JI)J"⟩, 10), (⟨"StreetOrgans", "payNow", "(II)I"⟩, 10), (⟨"java/lang/Throwable", "fillInStackTrace", "(I)Ljava/lang/Throwable;"⟩, 6), (⟨"StreetOrgans", "checkTune", "(I)V"⟩, 10), (⟨"StreetOrgans", "checkStreet", "(I)V"⟩, 10), (⟨"StreetOrgans", "payFine", "()I"⟩, 10), (⟨"StreetOrgans", "passNights", "(LStreetOrgans$Pipes;I)I"⟩, 10), (⟨"StreetOrgansModel", "no", "(I)I"⟩, 14), (⟨"StreetOrgansModel", "isTune", "(I)Z"⟩, 14), (⟨"StreetOrgansModel", "isStreet", "(I)Z"⟩, 14), (⟨"StreetOrgansModel", "isPermitted", "(I)Z"⟩, 14), (⟨"StreetOrgansModel", "paysNow", "(II)I"⟩, 14), (⟨"StreetOrgansModel", "soundOf", "(ILStreetOrgansModel$Pipes;I)I"⟩, 14), (⟨"StreetOrgansModel", "sing", "(ILStreetOrgansModel$Pipes;)V"⟩, 14)]
theorem lw_r1 : ∀ q ∈ lw_privs_1, lw_okq q := List.forall_mem_cons.mpr ⟨lw_p0, List.forall_mem_cons.mpr ⟨lw_p1, List.forall_mem_cons.mpr ⟨lw_p2, List.forall_mem_cons.mpr ⟨lw_p3, List.forall_mem_cons.mpr ⟨lw_p4, List.forall_mem_cons.mpr ⟨lw_p5, List.forall_mem_cons.mpr ⟨lw_p6, List.forall_mem_cons.mpr ⟨lw_p7, List.forall_mem_cons.mpr ⟨lw_p8, List.forall_mem_cons.mpr ⟨lw_p9, List.forall_mem_cons.mpr ⟨lw_p10, List.forall_mem_cons.mpr ⟨lw_p11, List.forall_mem_cons.mpr ⟨lw_p12, List.forall_mem_cons.mpr ⟨lw_p13, List.forall_mem_cons.mpr ⟨lw_p14, List.forall_mem_cons.mpr ⟨lw_p15, fun _ h => absurd h List.not_mem_nil⟩⟩⟩⟩⟩⟩⟩⟩⟩⟩⟩⟩⟩⟩⟩⟩
theorem lw_p16 : lw_okq (⟨"StreetOrgansModel", "pipeTold", "(II)I"⟩, 14) := ⟨⟨by decide +kernel, by decide +kernel⟩, List.mem_of_getElem? (i := 532) (by decide +kernel), List.mem_of_getElem? (i := 712) (by decide +kernel), List.mem_of_getElem? (i := 713) (by decide +kernel)⟩
theorem lw_p17 : lw_okq (⟨"StreetOrgansModel", "streetTold", "(II)I"⟩, 14) := ⟨⟨by decide +kernel, by decide +kernel⟩, List.mem_of_getElem? (i := 532) (by decide +kernel), List.mem_of_getElem? (i := 724) (by decide +kernel), List.mem_of_getElem? (i := 725) (by decide +kernel)⟩
theorem lw_p18 : lw_okq (⟨"StreetOrgansModel", "counted", "(I)I"⟩, 14) := ⟨⟨by decide +kernel, by decide +kernel⟩, List.mem_of_getElem? (i := 532) (by decide +kernel), List.mem_of_getElem? (i := 732) (by decide +kernel), List.mem_of_getElem? (i := 733) (by decide +kernel)⟩
def lw_privs_2 : List (MethodName × Nat) := [(⟨"StreetOrgansModel", "pipeTold", "(II)I"⟩, 14), (⟨"StreetOrgansModel", "streetTold", "(II)I"⟩, 14), (⟨"StreetOrgansModel", "counted", "(I)I"⟩, 14)]
theorem lw_r2 : ∀ q ∈ lw_privs_2, lw_okq q := List.forall_mem_cons.mpr ⟨lw_p16, List.forall_mem_cons.mpr ⟨lw_p17, List.forall_mem_cons.mpr ⟨lw_p18, fun _ h => absurd h List.not_mem_nil⟩⟩⟩
def lw_privs : List (MethodName × Nat) := lw_privs_1 ++ (lw_privs_2)
def lw_tbl : List Cond := k2_sels lw_privs ++ tables_1
theorem lw_privs_ok : ∀ q ∈ lw_privs, lw_okq q := by
  show ∀ q ∈ lw_privs_1 ++ (lw_privs_2), lw_okq q
  exact List.forall_mem_append.mpr ⟨lw_r1, lw_r2⟩
/-- the streams that the claim lets the run draw from -/
abbrev lw_cs : List Choice := [Jvm.Choice.named "NaN.bits"]
theorem lw_bits : nanBits ∈ lw_cs := by first | decide | exact List.mem_cons_self | simp [lw_cs, nanBits]
-- ===== end of PART A; then your names; then what follows =====
end
section
/-! ===== BEGIN words of one list among another's, by their places ===== -/
theorem goodIn_r {big : List Cond} (ws : List Cond) (ps : List Nat) (hp : ws = ps.filterMap (fun i => big[i]?)) (h : ws.all goodWord = true) : GoodIn big ws := by
  intro w hw
  have h1 := List.all_eq_true.mp h w hw
  rw [hp] at hw
  obtain ⟨i, -, hi⟩ := List.mem_filterMap.mp hw
  have hm : w ∈ big := by first | exact List.mem_of_getElem? hi | exact List.getElem?_mem hi
  exact ⟨hm, good_of_word h1⟩
theorem goodIn_app {big a b : List Cond} (ha : GoodIn big a) (hb : GoodIn big b) : GoodIn big (a ++ b) := fun w h => (List.mem_append.mp h).elim (ha w) (hb w)
theorem goodIn_ca {big a b : List Cond} {c : Cond} (ha : GoodIn big (c :: a)) (hb : GoodIn big b) : GoodIn big (c :: (a ++ b)) := fun w h => (List.mem_cons.mp h).elim (fun e => ha w (List.mem_cons.mpr (Or.inl e))) (fun h => (List.mem_append.mp h).elim (fun h => ha w (List.mem_cons.mpr (Or.inr h))) (hb w))
theorem goodIn_sub {big ws : List Cond} (hm : ∀ w ∈ ws, w ∈ big) (h : ws.all goodWord = true) : GoodIn big ws := fun w hw => ⟨hm w hw, good_of_word (List.all_eq_true.mp h w hw)⟩
/-! ===== END ===== -/

/-! ===== BEGIN exceptions that leave a method, and their catching by the caller (launches without stack traces) ===== -/
section VXA
/-! The laws vx_back, vx_callV, vx_callS, vx_callSW, vx_throw0, vx_throwS follow proofs of the library, with one case more: JvmDerived/Free/Laws.lean (Back.of_free), Shelf42/LK1.lean (callV, callS), Shelf/KitTraced.lean (throwNew0V, throwNewS). -/
/-- where a method has thrown q: the class by its name, the cell, what was written, the world -/
def vx_T (XC : String → State → State → Prop) (st : State) (q : Addr) (t : State) (mc ms : Nat) (free : Addr → Prop) : Prop :=
  ∃ (E : String) (ce : Cell) (L : List Loc), XC E st t ∧ t.heap[q]? = some ce ∧ ce.vm = .none ∧ st.vm.findClass E = some ce.cls ∧ st.WarmedH t.vm ∧ st.sameButNew ({ t with vm := st.vm } : State) L mc ms ∧ ∀ z ∈ L, free z.base
def vx_Q (Qc : Array Value → State → Outcome → State → Prop) (XC : String → State → State → Prop) (mc ms : Nat) (free : Addr → Prop) : Array Value → State → Outcome → State → Prop := fun a st o t =>
  (Qc a st o t ∧ ∃ L, FrameEnd st o t L mc ms ∧ ∀ q ∈ L, free q.base) ∨ ∃ q, o = .threw q ∧ vx_T XC st q t mc ms free
/-- a callee that returns or throws -/
def vx_Met (l : Launch) (y : MethodName) (ws : List Cond) (rm : Room) (Pc : Array Value → State → Prop) (Qc : Array Value → State → Outcome → State → Prop) (XC : String → State → State → Prop) (mc ms : Nat) (free : Addr → Prop) : Prop :=
  MetFree l y (headSpec ws rm) Pc (fun _ _ _ _ _ => True) (vx_Q Qc XC mc ms free)
def vx_Post (XC : String → State → State → Prop) (mc ms : Nat) (free : Addr → Prop) : Pt → Array Value → Addr → Pt → Prop := fun A a q B =>
  ∃ (g : JFrame) (mk : MethodId) (t : State) (L : List Loc) (E : String) (ce : Cell), B.U.heap = t.heap ∧ B.U.vm = t.vm ∧ XC E (A.U.calling g mk a) t ∧ t.heap[q]? = some ce ∧ ce.vm = .none ∧ A.U.vm.findClass E = some ce.cls ∧ B.locs = A.locs ++ L ∧ (∀ z ∈ L, free z.base) ∧ B.cells = A.cells + mc ∧ B.slots = A.slots + ms
def vx_Back (l : Launch) (R : Room) (p : Program) (e : Env) (below : List Frame) (s : State) (sargs : Array Value) (y : MethodName) (len W9 : Nat)
    (Pre : Pt → Array Value → Prop) (Post : Pt → Array Value → Option Value → Pt → Prop) (PostX : Pt → Array Value → Addr → Pt → Prop) : Prop :=
  ∀ (m : MethodId) (meth : Method) (c : Code) (A : Pt) (g : JFrame) (ig : Instr) (mk : MethodId) (a : Array Value),
    Stand p l e R s m sargs below meth c A.U A.locs A.cells A.slots → g.method = m → g.locals.size = c.maxLocals → decode c.code g.pc = .ok (ig, len) →
    2 * g.monitorRoom + (g.stack.map fun v => v.category).sum ≤ W9 → A.U.methodNamed? y = some mk → Pre A a →
    (∃ (v : Option Value) (B : Pt), Stand p l e R s m sargs below meth c B.U B.locs B.cells B.slots ∧ Post A a v B ∧
      Steps p.tables e below (doInvoke e (A.U.setTop g) [] mk a).1 (B.U.setTop { g with pc := g.pc + len, stack := v.toList ++ g.stack })) ∨
    (∃ (q : Addr) (B : Pt), Stand p l e R s m sargs below meth c B.U B.locs B.cells B.slots ∧ PostX A a q B ∧
      Steps p.tables e below (doInvoke e (A.U.setTop g) [] mk a).1 ((B.U.setTop g).pushFrame (.throwing q)))
section Payer
variable {l : Launch} {R : Room} {p : Program} {e : Env} {below : List Frame} {s : State} {sargs : Array Value} {y : MethodName} {len W9 : Nat}
theorem vx_back {ws : List Cond} {rm : Room} {Pc : Array Value → State → Prop} {Qc : Array Value → State → Outcome → State → Prop} {XC : String → State → State → Prop} {mc ms : Nat} {free : Addr → Prop} {bytes : ByteArray} {maxL : Nat} {ret : Option FieldType}
    (hM : vx_Met l y ws rm Pc Qc XC mc ms free) (hblind : FrameBlind Pc) (hrc : rm.cells = mc) (hrs : rm.slots = ms)
    (hframes : rm.frames + 1 ≤ R.frames) (hlocals : W9 + (maxL + 11) + rm.locals ≤ R.locals)
    (hws : ∀ w ∈ ws, ∀ a' U, s.WarmedH U.vm → w.before a' U = true) (hcode : Cond.code y bytes maxL ret ∈ ws) (hinit : ∀ a' U, s.WarmedH U.vm → (Cond.initialized y.cls).before a' U = true) :
    vx_Back l R p e below s sargs y len W9 (PreOf R mc ms Pc) (PostOf Qc mc ms free) (vx_Post XC mc ms free) := by
  intro m meth c A g ig mk a X hg hsize hdg hW hn hp
  have h1 : (headSpec ws rm).pre.before a A.U = true := atoms_intro fun w hw => hws w hw _ _ X.warmed
  have h2 : (Cond.code y bytes maxL ret).before a A.U = true := hws _ hcode _ _ X.warmed
  have h3 : (Cond.initialized y.cls).before a A.U = true := hinit _ _ X.warmed
  have h4 : A.cells + (headSpec ws rm).room.cells ≤ R.cells := by rw [show (headSpec ws rm).room.cells = mc from hrc]; exact hp.1
  have h5 : A.slots + (headSpec ws rm).room.slots ≤ R.slots := by rw [show (headSpec ws rm).room.slots = ms from hrs]; exact hp.2.1
  have hPc : Pc a (A.U.calling g mk a) := hblind _ _ _ _ hp.2.2
  obtain ⟨U, Ls, c0, s0⟩ := A
  dsimp only [Pt.U, Pt.locs, Pt.cells, Pt.slots] at h1 h2 h3 h4 h5 X hn hPc ⊢
  obtain ⟨methY, cY, hmY, hcY, -, hlY, -, -, -, -⟩ := Cond.code_spec hn h2
  obtain ⟨kY, hkY, -⟩ := className_of_methodNamed hn
  have hinitY : kY.init = .initialized := Cond.initialized_spec (findClass_of_methodNamed hn) hkY h3
  have h : At U g.method c below := by rw [hg]; exact X.here
  have hlocals9 : W9 + (maxL + 11) + (headSpec ws rm).room.locals ≤ R.locals := hlocals
  have happ : (headSpec ws rm).appliesLoose y e.platform (U.calling g mk a) = true :=
    Spec.appliesLoose_calling (g := g) h hdg hn hkY hinitY
      (X.room_calling (g := g) (R' := (headSpec ws rm).room) hsize hmY hcY hframes (by rw [hlY]; omega) h4 h5) h1
  obtain ⟨mid, hmid⟩ := h.above
  have hfr : (U.setTop g).frames = (.java g :: mid) ++ below := by rw [State.frames_setTop' g h.top, hmid]; rfl
  obtain ⟨o, s₂, hsteps, -, hend, hq⟩ := Steps.callFree hM p X.admits X.cas X.clock (acts := []) hfr happ hPc trivial
  have hq' : vx_Q Qc XC mc ms free a (U.calling g mk a) o s₂ := hq
  rw [State.frames_setTop' g h.top] at hend
  obtain ⟨g₀, hg0⟩ := Option.isSome_iff_exists.mp h.top
  obtain ⟨r, hr⟩ := State.topJava?_eq_some.mp hg0
  have hr' : (({ U with heap := s₂.heap, slotsUsed := s₂.slotsUsed } : State).setVm s₂.vm).frames = .java g₀ :: r := hr
  rcases hq' with ⟨hqc, L, hfe, hL⟩ | ⟨q, rfl, E, ce, L, hx, hce, hcv, hcl, hW₂, hsm, hL⟩
  · obtain ⟨⟨v, rfl⟩, hW₂, e2, q2, q3, q4, q5, q6⟩ := id hfe
    have e3 : s₂ = ({ (U.calling g mk a).setFrames s₂.frames with heap := s₂.heap, slotsUsed := s₂.slotsUsed } : State).setVm s₂.vm := by
      have : s₂ = ({ s₂ with vm := (U.calling g mk a).vm } : State).setVm s₂.vm := rfl
      rw [e2] at this
      exact this
    obtain ⟨c₂, i₂, len₂, hc₂, hd₂, hf₂⟩ := hend
    have hW' : U.WarmedH s₂.vm := hW₂
    have hcc : c₂ = c := by
      have h1 : s₂.code? g.method = U.code? g.method := by
        rw [State.code?_eq, State.code?_eq, hW'.alike.method?]
      exact Option.some.inj (hc₂.symm.trans (h1.trans h.code))
    subst hcc
    have hlen : len₂ = len := by rw [hdg] at hd₂; cases hd₂; rfl
    subst hlen
    have hs₂ : s₂ = (({ U with heap := s₂.heap, slotsUsed := s₂.slotsUsed } : State).setVm s₂.vm).setTop { g with pc := g.pc + len₂, stack := v.toList ++ g.stack } := by
      refine e3.trans ?_
      rw [hf₂, State.calling_eq h.top, State.setFrames_setFrames, State.setTop_of_frames _ hr', hr]
      rfl
    have hsame : U.sameButNew ({ U with heap := s₂.heap, slotsUsed := s₂.slotsUsed } : State) L mc ms := by
      refine ⟨?_, q2, q3, q4, q5, q6⟩
      obtain ⟨t, ht, -⟩ := State.frames_cons hr
      show ({ U with heap := s₂.heap, slotsUsed := s₂.slotsUsed } : State) = { U.setFrames U.frames with heap := s₂.heap, slotsUsed := s₂.slotsUsed }
      rw [State.setFrames_self ht]
    subst hg
    refine Or.inl ⟨v, ⟨(({ U with heap := s₂.heap, slotsUsed := s₂.slotsUsed } : State).setVm s₂.vm), Ls ++ L, c0 + mc, s0 + ms⟩,
      ⟨X.admits, X.cas, X.clock, X.frames, X.room, X.hears, X.method, X.code, (X.here.setHeapUsed s₂.heap s₂.slotsUsed).setVm hW'.alike, X.tail, State.WarmedH.trans X.warmed hW', X.limits, X.bytes, X.same.trans (hsame.setVm s.vm)⟩,
      ⟨g, mk, s₂, L, rfl, rfl, hqc, rfl, hL, rfl, rfl⟩, ?_⟩
    show Steps p.tables e below _ ((({ U with heap := s₂.heap, slotsUsed := s₂.slotsUsed } : State).setVm s₂.vm).setTop { g with pc := g.pc + len₂, stack := v.toList ++ g.stack })
    rw [← hs₂]
    exact hsteps
  · obtain ⟨e2, q2, q3, q4, q5, q6⟩ := id hsm
    have e3 : s₂ = ({ (U.calling g mk a).setFrames s₂.frames with heap := s₂.heap, slotsUsed := s₂.slotsUsed } : State).setVm s₂.vm := by
      have : s₂ = ({ s₂ with vm := (U.calling g mk a).vm } : State).setVm s₂.vm := rfl
      rw [e2] at this
      exact this
    have hf₂ : s₂.frames = .throwing q :: .java g :: U.frames.tail := hend
    have hW' : U.WarmedH s₂.vm := hW₂
    have hs₂ : s₂ = ((({ U with heap := s₂.heap, slotsUsed := s₂.slotsUsed } : State).setVm s₂.vm).setTop g).pushFrame (.throwing q) := by
      refine e3.trans ?_
      rw [hf₂, State.calling_eq h.top, State.setFrames_setFrames, State.pushFrame, State.frames_setTop _ hr', State.setTop_of_frames _ hr', State.setFrames_setFrames, hr]
      rfl
    have hsame : U.sameButNew ({ U with heap := s₂.heap, slotsUsed := s₂.slotsUsed } : State) L mc ms := by
      refine ⟨?_, q2, q3, q4, q5, q6⟩
      obtain ⟨t, ht, -⟩ := State.frames_cons hr
      show ({ U with heap := s₂.heap, slotsUsed := s₂.slotsUsed } : State) = { U.setFrames U.frames with heap := s₂.heap, slotsUsed := s₂.slotsUsed }
      rw [State.setFrames_self ht]
    subst hg
    refine Or.inr ⟨q, ⟨(({ U with heap := s₂.heap, slotsUsed := s₂.slotsUsed } : State).setVm s₂.vm), Ls ++ L, c0 + mc, s0 + ms⟩,
      ⟨X.admits, X.cas, X.clock, X.frames, X.room, X.hears, X.method, X.code, (X.here.setHeapUsed s₂.heap s₂.slotsUsed).setVm hW'.alike, X.tail, State.WarmedH.trans X.warmed hW', X.limits, X.bytes, X.same.trans (hsame.setVm s.vm)⟩,
      ⟨g, mk, s₂, L, E, ce, rfl, rfl, hx, hce, hcv, hcl, rfl, hL, rfl, rfl⟩, ?_⟩
    show Steps p.tables e below _ (((({ U with heap := s₂.heap, slotsUsed := s₂.slotsUsed } : State).setVm s₂.vm).setTop g).pushFrame (.throwing q))
    rw [← hs₂]
    exact hsteps
end Payer
section Calls
variable {p : Program} {l : Launch} {e : Env} {R : Room} {s : State} {m : MethodId} {args : Array Value} {below : List Frame} {meth : Method} {c : Code} {T : State} {locs : List Loc} {cells slots : Nat}
theorem vx_callV (X : Stand p l e R s m args below meth c T locs cells slots) (hexec : p.tables.exec = Jvm.exec) {own C : String} {index : Nat} {y : MethodName} {bytes : ByteArray} {maxL : Nat} {ret : Option FieldType}
    (hown : s.vm.findClass own = some m.cls) (hlink : (Cond.methodLink own index y).before args s = true) (hinst : (Cond.instanceMethod y).before args s = true) (hsel : (Cond.selects C y y).before args s = true)
    (hcode : (Cond.code y bytes maxL ret).before args s = true) (hy : y.cls ≠ "java/lang/invoke/MethodHandle" ∧ y.cls ≠ "java/lang/invoke/VarHandle")
    {W9 : Nat} {Pre : Pt → Array Value → Prop} {Post : Pt → Array Value → Option Value → Pt → Prop} {PostX : Pt → Array Value → Addr → Pt → Prop} (hK : vx_Back l R p e below s args y 3 W9 Pre Post PostX)
    {b : Addr} {cellB : Cell} (hcell : T.heap[b]? = some cellB) (hobj : cellB.vm.isStatics = false) (hcls : s.vm.findClass C = some cellB.cls)
    {g : JFrame} (hg : g.method = m) (hsize : g.locals.size = c.maxLocals) {argsL rest : List Value} (hlen : ∀ sig, parseMethodDescriptor y.desc = some sig → argsL.length = sig.parameters.length)
    (hstack : g.stack = argsL.reverse ++ .ref b :: rest) (hW : 2 * g.monitorRoom + (rest.map fun v => v.category).sum ≤ W9) (hdg : decode c.code g.pc = .ok (.invokevirtual index, 3))
    (hpre : ∀ vm₁, s.WarmedH vm₁ → Pre ⟨T.setVm vm₁, locs, cells, slots⟩ (Value.ref b :: argsL).toArray) :
    (∃ (v : Option Value) (vm₁ : Vm) (B : Pt), s.WarmedH vm₁ ∧ Stand p l e R s m args below meth c B.U B.locs B.cells B.slots ∧ Post ⟨T.setVm vm₁, locs, cells, slots⟩ (Value.ref b :: argsL).toArray v B ∧
      ∀ target, Steps p.tables e below (B.U.setTop { g with pc := g.pc + 3, stack := v.toList ++ rest }) target → Steps p.tables e below (T.setTop g) target) ∨
    (∃ (q : Addr) (vm₁ : Vm) (B : Pt), s.WarmedH vm₁ ∧ Stand p l e R s m args below meth c B.U B.locs B.cells B.slots ∧ PostX ⟨T.setVm vm₁, locs, cells, slots⟩ (Value.ref b :: argsL).toArray q B ∧
      Steps p.tables e below (T.setTop g) ((B.U.setTop { g with stack := rest }).pushFrame (.throwing q))) := by
  obtain ⟨mk, methM, hnamed, hmethM, hstM, habM⟩ := Cond.instanceMethod_spec hinst
  obtain ⟨methM', cM, hmethM', -, -, -, -, -, -, hsigM⟩ := Cond.code_spec hnamed hcode
  cases hmethM.symm.trans hmethM'
  obtain ⟨c2, r2, m2, q1, q2, q3, q4, kP, hkP, hkPi⟩ := Cond.selects_spec hsel
  cases hcls.symm.trans q1
  cases (State.methodFound?_of_named hnamed hy).symm.trans q2
  cases hnamed.symm.trans q3
  have hselP : selectMethod e.platform s.vm cellB.cls mk = .method mk := by rw [Launch.admits_selectMethod X.admits]; exact q4
  obtain ⟨vm₁, X₁, hstep₁⟩ := X.invokevirtual hexec hown hlink hnamed hmethM hstM hkP hkPi hy (a := b) (cell := cellB) hcell
    (fun z h => by rw [h] at hobj; cases hobj) hselP hmethM habM hkP hkPi (g := g) hg (argsL := argsL) (rest := rest) (hlen _ hsigM) hstack hdg
  rcases hK m meth c ⟨T.setVm vm₁, locs, cells, slots⟩ { g with stack := rest } (.invokevirtual index) mk (Value.ref b :: argsL).toArray X₁ hg hsize hdg hW (X₁.named hnamed) (hpre vm₁ X₁.warmed) with ⟨v, B, X', hpost, hsteps⟩ | ⟨q, B, X', hpost, hsteps⟩
  · exact Or.inl ⟨v, vm₁, B, X₁.warmed, X', hpost, fun target h => hstep₁ _ fun acts => by rw [doInvoke_state]; exact hsteps.trans h⟩
  · exact Or.inr ⟨q, vm₁, B, X₁.warmed, X', hpost, hstep₁ _ fun acts => by rw [doInvoke_state]; exact hsteps⟩
theorem vx_callS (X : Stand p l e R s m args below meth c T locs cells slots) (hexec : p.tables.exec = Jvm.exec) {own : String} {index : Nat} {y : MethodName} {bytes : ByteArray} {maxL : Nat} {ret : Option FieldType}
    (hown : s.vm.findClass own = some m.cls) (hlink : (Cond.methodLink own index y).before args s = true) (hstat : (Cond.static y).before args s = true) (hinit : (Cond.initialized y.cls).before args s = true)
    (hcode : (Cond.code y bytes maxL ret).before args s = true) (hy : y.cls ≠ "java/lang/invoke/MethodHandle" ∧ y.cls ≠ "java/lang/invoke/VarHandle")
    {W9 : Nat} {Pre : Pt → Array Value → Prop} {Post : Pt → Array Value → Option Value → Pt → Prop} {PostX : Pt → Array Value → Addr → Pt → Prop} (hK : vx_Back l R p e below s args y 3 W9 Pre Post PostX)
    {g : JFrame} (hg : g.method = m) (hsize : g.locals.size = c.maxLocals) {argsL rest : List Value} (hlen : ∀ sig, parseMethodDescriptor y.desc = some sig → argsL.length = sig.parameters.length)
    (hstack : g.stack = argsL.reverse ++ rest) (hW : 2 * g.monitorRoom + (rest.map fun v => v.category).sum ≤ W9) (hdg : decode c.code g.pc = .ok (.invokestatic index, 3))
    (hpre : ∀ vm₁, s.WarmedH vm₁ → Pre ⟨T.setVm vm₁, locs, cells, slots⟩ argsL.toArray) :
    (∃ (v : Option Value) (vm₁ : Vm) (B : Pt), s.WarmedH vm₁ ∧ Stand p l e R s m args below meth c B.U B.locs B.cells B.slots ∧ Post ⟨T.setVm vm₁, locs, cells, slots⟩ argsL.toArray v B ∧
      ∀ target, Steps p.tables e below (B.U.setTop { g with pc := g.pc + 3, stack := v.toList ++ rest }) target → Steps p.tables e below (T.setTop g) target) ∨
    (∃ (q : Addr) (vm₁ : Vm) (B : Pt), s.WarmedH vm₁ ∧ Stand p l e R s m args below meth c B.U B.locs B.cells B.slots ∧ PostX ⟨T.setVm vm₁, locs, cells, slots⟩ argsL.toArray q B ∧
      Steps p.tables e below (T.setTop g) ((B.U.setTop { g with stack := rest }).pushFrame (.throwing q))) := by
  obtain ⟨mk, hnamed⟩ := Cond.code_named hcode
  obtain ⟨methM, cM, hmethM, -, -, -, -, -, -, hsigM⟩ := Cond.code_spec hnamed hcode
  have hstatic : methM.isStatic = true := Cond.static_spec hnamed hmethM hstat
  obtain ⟨kP, hkP, -⟩ := className_of_methodNamed hnamed
  have hinitP : kP.init = .initialized := Cond.initialized_spec (findClass_of_methodNamed hnamed) hkP hinit
  obtain ⟨vm₁, X₁, hstep₁⟩ := X.invokestatic hexec hown hlink hnamed hmethM hstatic hkP hinitP hy (g := g) hg (argsL := argsL) (rest := rest) (hlen _ hsigM) hstack hdg
  rcases hK m meth c ⟨T.setVm vm₁, locs, cells, slots⟩ { g with stack := rest } (.invokestatic index) mk argsL.toArray X₁ hg hsize hdg hW (X₁.named hnamed) (hpre vm₁ X₁.warmed) with ⟨v, B, X', hpost, hsteps⟩ | ⟨q, B, X', hpost, hsteps⟩
  · exact Or.inl ⟨v, vm₁, B, X₁.warmed, X', hpost, fun target h => hstep₁ _ fun acts => by rw [doInvoke_state]; exact hsteps.trans h⟩
  · exact Or.inr ⟨q, vm₁, B, X₁.warmed, X', hpost, hstep₁ _ fun acts => by rw [doInvoke_state]; exact hsteps⟩
end Calls
theorem vx_cls {s : State} {T : State} {vm₁ : Vm} {E : String} {k : ClassId} (hW : s.WarmedH vm₁) (h : (T.setVm vm₁).vm.findClass E = some k) : s.vm.findClass E = some k := by
  have h1 : vm₁.findClass E = some k := h
  rw [hW.alike.findClass] at h1
  exact h1
/-- the method's frame g, with q thrown over it -/
def vx_W (p : Program) (l : Launch) (e : Env) (R : Room) (s : State) (m : MethodId) (args : Array Value) (below : List Frame) (meth : Method) (c : Code) (H : Heap) (locs : List Loc) (cells slots : Nat) (Q : State → Prop) (g : JFrame) (q : Addr) : Prop :=
  ∀ T : State, T.heap = H → Stand p l e R s m args below meth c T locs cells slots → ∃ t, Steps p.tables e below ((T.setTop g).pushFrame (.throwing q)) t ∧ Q t
def vx_Run (p : Program) (l : Launch) (e : Env) (R : Room) (s : State) (m : MethodId) (args : Array Value) (below : List Frame) (meth : Method) (c : Code) (H : Heap) (locs : List Loc) (cells slots mc ms : Nat) (g : JFrame) (rest : List Value) (Qa : State → Outcome → State → Prop) (XC : String → State → State → Prop) (free : Addr → Prop) : Prop :=
  ∀ T : State, T.heap = H → Stand p l e R s m args below meth c T locs cells slots →
    (∃ (v : Option Value) (st₀ t T' : State) (L : List Loc), st₀.heap = H ∧ Stand p l e R s m args below meth c T' (locs ++ L) (cells + mc) (slots + ms) ∧ (∀ q ∈ L, free q.base) ∧ T'.heap = t.heap ∧ T'.vm = t.vm ∧ Qa st₀ (.returned v) t ∧
      Goes p e below T g T' { g with pc := g.pc + 3, stack := v.toList ++ rest }) ∨
    (∃ (q : Addr) (st₀ t T' : State) (L : List Loc) (E : String) (ce : Cell), st₀.heap = H ∧ Stand p l e R s m args below meth c T' (locs ++ L) (cells + mc) (slots + ms) ∧ (∀ z ∈ L, free z.base) ∧ T'.heap = t.heap ∧ T'.vm = t.vm ∧ XC E st₀ t ∧ t.heap[q]? = some ce ∧ ce.vm = .none ∧ s.vm.findClass E = some ce.cls ∧
      Steps p.tables e below (T.setTop g) ((T'.setTop { g with stack := rest }).pushFrame (.throwing q)))
def vx_X {S : Type} (px : S → Prop) (B : String → S → State → Prop) (A : Nat → Prop) : String → State → State → Prop := fun E st t => ∃ u : S, px u ∧ B E u t ∧ va_F A st t
section Runs
variable {p : Program} {l : Launch} {e : Env} {R : Room} {s : State} {m : MethodId} {args : Array Value} {below : List Frame} {meth : Method} {c : Code} {H : Heap} {locs : List Loc} {cells slots : Nat}
variable {y : MethodName} {bytes cc : ByteArray} {maxL nL mc ms n index : Nat} {ret : Option FieldType} {ws : List Cond} {rm : Room} {Pc : Array Value → State → Prop} {Qc : Array Value → State → Outcome → State → Prop} {XC : String → State → State → Prop} {free : Addr → Prop} {Ts : List Cond} {own C : String} {b : Addr} {As rest : List Value} {g : JFrame}
theorem vx_callBack (cb : CallB R s args own index y bytes maxL ret ws rm mc ms n) (hM : vx_Met l y ws rm Pc Qc XC mc ms free) (hbl : FrameBlind Pc) : vx_Back l R p e below s args y 3 8 (PreOf R mc ms Pc) (PostOf Qc mc ms free) (vx_Post XC mc ms free) := by
  obtain ⟨hrc, hrs, hfr, hlo, hws, hcw, -, hini, -⟩ := cb
  exact vx_back (bytes := bytes) (maxL := maxL) (ret := ret) hM hbl hrc hrs hfr hlo hws hcw (fun a' U hW => word_at hW (Or.inl (by first | rfl | simp [Cond.onTables, Cond.keeps, Cond.steady])) hini)
theorem vx_runV (S : CallFix p m c cc nL s args Ts own) (hM : vx_Met l y ws rm Pc Qc XC mc ms free) (cw : CallW R s args own C index y bytes maxL ret ws rm mc ms n) (hp : PreV s H C b Pc As)
    (hg : g.method = m) (hn : As.length = n) (hsize : g.locals.size = nL) (hstack : g.stack = As.reverse ++ .ref b :: rest) (hW : 2 * g.monitorRoom + (rest.map fun v => v.category).sum ≤ 8) (hdg : decode cc g.pc = .ok (.invokevirtual index, 3)) (hf : cells + mc ≤ R.cells ∧ slots + ms ≤ R.slots) :
    vx_Run p l e R s m args below meth c H locs cells slots mc ms g rest (Qc (Value.ref b :: As).toArray) XC free := by
  have hK : vx_Back l R p e below s args y 3 8 (PreOf R mc ms Pc) (PostOf Qc mc ms free) (vx_Post XC mc ms free) := vx_callBack cw.1 hM hp.1
  obtain ⟨⟨-, -, -, -, -, -, hcode, -, hy, hlen, hl⟩, hin, hse⟩ := cw
  obtain ⟨hx, hb, hml, ho, -⟩ := S
  obtain ⟨-, ⟨cellB, hcB, hoB, hclB⟩, hPc⟩ := hp
  intro T hT X
  rcases vx_callV X hx (C := C) (bytes := bytes) (maxL := maxL) (ret := ret) ho hl hin hse hcode hy hK (by rw [hT]; exact hcB) hoB hclB hg (hsize.trans hml.symm) (argsL := As) (rest := rest) (fun sig h => hn.trans (hlen sig h)) hstack hW (by rw [hb]; exact hdg)
    (fun vm₁ hW₁ => ⟨hf.1, hf.2, hPc (T.setVm vm₁) hT hW₁⟩) with ⟨v, vm₁, ⟨U', l2, c2, s2⟩, hW₁, X', ⟨g', mk, t, L, e1, e2, hq, h1, hL, h2, h3⟩, st⟩ | ⟨q, vm₁, ⟨U', l2, c2, s2⟩, hW₁, X', ⟨g', mk, t, L, E, ce, e1, e2, hq, hce, hcv, hcl, h1, hL, h2, h3⟩, st⟩
  · dsimp only [Pt.U, Pt.locs, Pt.cells, Pt.slots] at X' e1 e2 h1 h2 h3 st
    subst h1; subst h2; subst h3
    exact Or.inl ⟨v, (T.setVm vm₁).calling g' mk (Value.ref b :: As).toArray, t, U', L, hT, X', hL, e1, e2, hq, st⟩
  · dsimp only [Pt.U, Pt.locs, Pt.cells, Pt.slots] at X' e1 e2 h1 h2 h3 st hcl
    subst h1; subst h2; subst h3
    exact Or.inr ⟨q, (T.setVm vm₁).calling g' mk (Value.ref b :: As).toArray, t, U', L, E, ce, hT, X', hL, e1, e2, hq, hce, hcv, vx_cls hW₁ hcl, st⟩
theorem vx_runS (S : CallFix p m c cc nL s args Ts own) (hM : vx_Met l y ws rm Pc Qc XC mc ms free) (cw : CallB R s args own index y bytes maxL ret ws rm mc ms n ∧ (Cond.static y).before args s = true) (hp : PreS s H Pc As)
    (hg : g.method = m) (hn : As.length = n) (hsize : g.locals.size = nL) (hstack : g.stack = As.reverse ++ rest) (hW : 2 * g.monitorRoom + (rest.map fun v => v.category).sum ≤ 8) (hdg : decode cc g.pc = .ok (.invokestatic index, 3)) (hf : cells + mc ≤ R.cells ∧ slots + ms ≤ R.slots) :
    vx_Run p l e R s m args below meth c H locs cells slots mc ms g rest (Qc As.toArray) XC free := by
  have hK : vx_Back l R p e below s args y 3 8 (PreOf R mc ms Pc) (PostOf Qc mc ms free) (vx_Post XC mc ms free) := vx_callBack cw.1 hM hp.1
  obtain ⟨⟨-, -, -, -, -, -, hcode, hini, hy, hlen, hl⟩, hstt⟩ := cw
  obtain ⟨hx, hb, hml, ho, -⟩ := S
  intro T hT X
  rcases vx_callS X hx (bytes := bytes) (maxL := maxL) (ret := ret) ho hl hstt hini hcode hy hK hg (hsize.trans hml.symm) (argsL := As) (rest := rest) (fun sig h => hn.trans (hlen sig h)) hstack hW (by rw [hb]; exact hdg)
    (fun vm₁ hW₁ => ⟨hf.1, hf.2, hp.2 (T.setVm vm₁) hT hW₁⟩) with ⟨v, vm₁, ⟨U', l2, c2, s2⟩, hW₁, X', ⟨g', mk, t, L, e1, e2, hq, h1, hL, h2, h3⟩, st⟩ | ⟨q, vm₁, ⟨U', l2, c2, s2⟩, hW₁, X', ⟨g', mk, t, L, E, ce, e1, e2, hq, hce, hcv, hcl, h1, hL, h2, h3⟩, st⟩
  · dsimp only [Pt.U, Pt.locs, Pt.cells, Pt.slots] at X' e1 e2 h1 h2 h3 st
    subst h1; subst h2; subst h3
    exact Or.inl ⟨v, (T.setVm vm₁).calling g' mk As.toArray, t, U', L, hT, X', hL, e1, e2, hq, st⟩
  · dsimp only [Pt.U, Pt.locs, Pt.cells, Pt.slots] at X' e1 e2 h1 h2 h3 st hcl
    subst h1; subst h2; subst h3
    exact Or.inr ⟨q, (T.setVm vm₁).calling g' mk As.toArray, t, U', L, E, ce, hT, X', hL, e1, e2, hq, hce, hcv, vx_cls hW₁ hcl, st⟩
end Runs
section Rows
variable {p : Program} {l : Launch} {e : Env} {R : Room} {s : State} {m : MethodId} {args : Array Value} {below : List Frame} {meth : Method} {c : Code} {H : Heap} {locs : List Loc} {cells slots : Nat} {Q : State → Prop}
variable {mc ms : Nat} {free : Addr → Prop} {A0 A1 : Nat → Prop} {H0 : Heap} {a : Array Value} {pc : Nat} {ls : Array Slot} {st0 rest : List Value}
theorem vx_keep {st₀ t T' : State} {L : List Loc} (h0 : st₀.heap = H) (e1 : T'.heap = t.heap) (hS : va_S A0 H0 H locs) (hA : ∀ q, q < H.size → A1 q → A0 q) (hf : ∀ q, free q → A0 q) (hL : ∀ q ∈ L, free q.base) (hF : va_F A1 st₀ t) :
    H.size ≤ T'.heap.size ∧ (∀ q : Nat, q < H.size → ¬ A1 q → T'.heap[q]? = H[q]?) ∧ va_S A0 H0 T'.heap (locs ++ L) := by
  obtain ⟨hz, hk⟩ := hF
  rw [h0] at hz hk
  exact ⟨by rw [e1]; exact hz, fun q h1 h2 => by rw [e1]; exact hk q h1 h2,
    ⟨Nat.le_trans hS.1 (by rw [e1]; exact hz), fun q h1 h2 => by rw [e1, hk q (Nat.lt_of_lt_of_le h1 hS.1) (fun z => h2 (hA q (Nat.lt_of_lt_of_le h1 hS.1) z))]; exact hS.2.1 q h1 h2, fun q hq => by
      rcases List.mem_append.mp hq with h | h
      · exact hS.2.2 q h
      · exact hf _ (hL q h)⟩⟩
theorem vx_calli {S SX : Type} {post : Int32 → S → Prop} {px : SX → Prop} {B : S → State → Prop} {BX : String → SX → State → Prop} {AX : Nat → Prop} (hr : vx_Run p l e R s m args below meth c H locs cells slots mc ms (F0 m pc ls st0) rest (va_Qi post B A1 a) (vx_X px BX AX) free) (hS : va_S A0 H0 H locs) (hA : ∀ q, q < H.size → A1 q → A0 q) (hf : ∀ q, free q → A0 q) (hAX : ∀ q, q < H.size → AX q → A0 q)
    (kx : ∀ (E : String) (ce : Cell) (q9 : Addr) (u : SX) (t : State) (H1 : Heap) (locs1 : List Loc), t.heap = H1 → s.vm.Alike t.vm → px u → BX E u t → H.size ≤ H1.size → (∀ q : Nat, q < H.size → ¬ AX q → H1[q]? = H[q]?) → va_S A0 H0 H1 locs1 → H1[q9]? = some ce → ce.vm = .none → s.vm.findClass E = some ce.cls → vx_W p l e R s m args below meth c H1 locs1 (cells + mc) (slots + ms) Q (F0 m pc ls rest) q9)
    (kk : ∀ (r : Int32) (u : S) (t : State) (H1 : Heap) (locs1 : List Loc), t.heap = H1 → s.vm.Alike t.vm → post r u → B u t → H.size ≤ H1.size → (∀ q : Nat, q < H.size → ¬ A1 q → H1[q]? = H[q]?) → va_S A0 H0 H1 locs1 → W p l e R s m args below meth c H1 locs1 (cells + mc) (slots + ms) Q (F0 m (pc + 3) ls (.int r :: rest))) : W p l e R s m args below meth c H locs cells slots Q (F0 m pc ls st0) := by
  intro T hT X
  rcases hr T hT X with ⟨v, st₀, t, T', L, h0, X', hL, e1, e2, ⟨⟨r, u, hv, hp, hb⟩, hF⟩, st⟩ | ⟨q, st₀, t, T', L, E, ce, h0, X', hL, e1, e2, ⟨u, hp, hb, hF⟩, hce, hcv, hcl, st⟩
  · cases hv
    obtain ⟨k1, k2, k3⟩ := vx_keep h0 e1 hS hA hf hL hF
    obtain ⟨t2, a1, b1⟩ := kk r u t T'.heap (locs ++ L) e1.symm (by rw [← e2]; exact X'.warmed.alike) hp hb k1 k2 k3 T' rfl X'
    exact ⟨t2, st t2 a1, b1⟩
  · obtain ⟨k1, k2, k3⟩ := vx_keep h0 e1 hS hAX hf hL hF
    obtain ⟨t2, a1, b1⟩ := kx E ce q u t T'.heap (locs ++ L) e1.symm (by rw [← e2]; exact X'.warmed.alike) hp hb k1 k2 k3 (by rw [e1]; exact hce) hcv hcl T' rfl X'
    exact ⟨t2, st.trans a1, b1⟩
theorem vx_calll {S SX : Type} {post : Int64 → S → Prop} {px : SX → Prop} {B : S → State → Prop} {BX : String → SX → State → Prop} {AX : Nat → Prop} (hr : vx_Run p l e R s m args below meth c H locs cells slots mc ms (F0 m pc ls st0) rest (va_Ql post B A1 a) (vx_X px BX AX) free) (hS : va_S A0 H0 H locs) (hA : ∀ q, q < H.size → A1 q → A0 q) (hf : ∀ q, free q → A0 q) (hAX : ∀ q, q < H.size → AX q → A0 q)
    (kx : ∀ (E : String) (ce : Cell) (q9 : Addr) (u : SX) (t : State) (H1 : Heap) (locs1 : List Loc), t.heap = H1 → s.vm.Alike t.vm → px u → BX E u t → H.size ≤ H1.size → (∀ q : Nat, q < H.size → ¬ AX q → H1[q]? = H[q]?) → va_S A0 H0 H1 locs1 → H1[q9]? = some ce → ce.vm = .none → s.vm.findClass E = some ce.cls → vx_W p l e R s m args below meth c H1 locs1 (cells + mc) (slots + ms) Q (F0 m pc ls rest) q9)
    (kk : ∀ (r : Int64) (u : S) (t : State) (H1 : Heap) (locs1 : List Loc), t.heap = H1 → s.vm.Alike t.vm → post r u → B u t → H.size ≤ H1.size → (∀ q : Nat, q < H.size → ¬ A1 q → H1[q]? = H[q]?) → va_S A0 H0 H1 locs1 → W p l e R s m args below meth c H1 locs1 (cells + mc) (slots + ms) Q (F0 m (pc + 3) ls (.long r :: rest))) : W p l e R s m args below meth c H locs cells slots Q (F0 m pc ls st0) := by
  intro T hT X
  rcases hr T hT X with ⟨v, st₀, t, T', L, h0, X', hL, e1, e2, ⟨⟨r, u, hv, hp, hb⟩, hF⟩, st⟩ | ⟨q, st₀, t, T', L, E, ce, h0, X', hL, e1, e2, ⟨u, hp, hb, hF⟩, hce, hcv, hcl, st⟩
  · cases hv
    obtain ⟨k1, k2, k3⟩ := vx_keep h0 e1 hS hA hf hL hF
    obtain ⟨t2, a1, b1⟩ := kk r u t T'.heap (locs ++ L) e1.symm (by rw [← e2]; exact X'.warmed.alike) hp hb k1 k2 k3 T' rfl X'
    exact ⟨t2, st t2 a1, b1⟩
  · obtain ⟨k1, k2, k3⟩ := vx_keep h0 e1 hS hAX hf hL hF
    obtain ⟨t2, a1, b1⟩ := kx E ce q u t T'.heap (locs ++ L) e1.symm (by rw [← e2]; exact X'.warmed.alike) hp hb k1 k2 k3 (by rw [e1]; exact hce) hcv hcl T' rfl X'
    exact ⟨t2, st.trans a1, b1⟩
theorem vx_callf {S SX : Type} {post : UInt32 → S → Prop} {px : SX → Prop} {B : S → State → Prop} {BX : String → SX → State → Prop} {AX : Nat → Prop} (hr : vx_Run p l e R s m args below meth c H locs cells slots mc ms (F0 m pc ls st0) rest (va_Qf post B A1 a) (vx_X px BX AX) free) (hS : va_S A0 H0 H locs) (hA : ∀ q, q < H.size → A1 q → A0 q) (hf : ∀ q, free q → A0 q) (hAX : ∀ q, q < H.size → AX q → A0 q)
    (kx : ∀ (E : String) (ce : Cell) (q9 : Addr) (u : SX) (t : State) (H1 : Heap) (locs1 : List Loc), t.heap = H1 → s.vm.Alike t.vm → px u → BX E u t → H.size ≤ H1.size → (∀ q : Nat, q < H.size → ¬ AX q → H1[q]? = H[q]?) → va_S A0 H0 H1 locs1 → H1[q9]? = some ce → ce.vm = .none → s.vm.findClass E = some ce.cls → vx_W p l e R s m args below meth c H1 locs1 (cells + mc) (slots + ms) Q (F0 m pc ls rest) q9)
    (kk : ∀ (r : UInt32) (u : S) (t : State) (H1 : Heap) (locs1 : List Loc), t.heap = H1 → s.vm.Alike t.vm → post r u → B u t → H.size ≤ H1.size → (∀ q : Nat, q < H.size → ¬ A1 q → H1[q]? = H[q]?) → va_S A0 H0 H1 locs1 → W p l e R s m args below meth c H1 locs1 (cells + mc) (slots + ms) Q (F0 m (pc + 3) ls (.float r :: rest))) : W p l e R s m args below meth c H locs cells slots Q (F0 m pc ls st0) := by
  intro T hT X
  rcases hr T hT X with ⟨v, st₀, t, T', L, h0, X', hL, e1, e2, ⟨⟨r, u, hv, hp, hb⟩, hF⟩, st⟩ | ⟨q, st₀, t, T', L, E, ce, h0, X', hL, e1, e2, ⟨u, hp, hb, hF⟩, hce, hcv, hcl, st⟩
  · cases hv
    obtain ⟨k1, k2, k3⟩ := vx_keep h0 e1 hS hA hf hL hF
    obtain ⟨t2, a1, b1⟩ := kk r u t T'.heap (locs ++ L) e1.symm (by rw [← e2]; exact X'.warmed.alike) hp hb k1 k2 k3 T' rfl X'
    exact ⟨t2, st t2 a1, b1⟩
  · obtain ⟨k1, k2, k3⟩ := vx_keep h0 e1 hS hAX hf hL hF
    obtain ⟨t2, a1, b1⟩ := kx E ce q u t T'.heap (locs ++ L) e1.symm (by rw [← e2]; exact X'.warmed.alike) hp hb k1 k2 k3 (by rw [e1]; exact hce) hcv hcl T' rfl X'
    exact ⟨t2, st.trans a1, b1⟩
theorem vx_calld {S SX : Type} {post : UInt64 → S → Prop} {px : SX → Prop} {B : S → State → Prop} {BX : String → SX → State → Prop} {AX : Nat → Prop} (hr : vx_Run p l e R s m args below meth c H locs cells slots mc ms (F0 m pc ls st0) rest (va_Qd post B A1 a) (vx_X px BX AX) free) (hS : va_S A0 H0 H locs) (hA : ∀ q, q < H.size → A1 q → A0 q) (hf : ∀ q, free q → A0 q) (hAX : ∀ q, q < H.size → AX q → A0 q)
    (kx : ∀ (E : String) (ce : Cell) (q9 : Addr) (u : SX) (t : State) (H1 : Heap) (locs1 : List Loc), t.heap = H1 → s.vm.Alike t.vm → px u → BX E u t → H.size ≤ H1.size → (∀ q : Nat, q < H.size → ¬ AX q → H1[q]? = H[q]?) → va_S A0 H0 H1 locs1 → H1[q9]? = some ce → ce.vm = .none → s.vm.findClass E = some ce.cls → vx_W p l e R s m args below meth c H1 locs1 (cells + mc) (slots + ms) Q (F0 m pc ls rest) q9)
    (kk : ∀ (r : UInt64) (u : S) (t : State) (H1 : Heap) (locs1 : List Loc), t.heap = H1 → s.vm.Alike t.vm → post r u → B u t → H.size ≤ H1.size → (∀ q : Nat, q < H.size → ¬ A1 q → H1[q]? = H[q]?) → va_S A0 H0 H1 locs1 → W p l e R s m args below meth c H1 locs1 (cells + mc) (slots + ms) Q (F0 m (pc + 3) ls (.double r :: rest))) : W p l e R s m args below meth c H locs cells slots Q (F0 m pc ls st0) := by
  intro T hT X
  rcases hr T hT X with ⟨v, st₀, t, T', L, h0, X', hL, e1, e2, ⟨⟨r, u, hv, hp, hb⟩, hF⟩, st⟩ | ⟨q, st₀, t, T', L, E, ce, h0, X', hL, e1, e2, ⟨u, hp, hb, hF⟩, hce, hcv, hcl, st⟩
  · cases hv
    obtain ⟨k1, k2, k3⟩ := vx_keep h0 e1 hS hA hf hL hF
    obtain ⟨t2, a1, b1⟩ := kk r u t T'.heap (locs ++ L) e1.symm (by rw [← e2]; exact X'.warmed.alike) hp hb k1 k2 k3 T' rfl X'
    exact ⟨t2, st t2 a1, b1⟩
  · obtain ⟨k1, k2, k3⟩ := vx_keep h0 e1 hS hAX hf hL hF
    obtain ⟨t2, a1, b1⟩ := kx E ce q u t T'.heap (locs ++ L) e1.symm (by rw [← e2]; exact X'.warmed.alike) hp hb k1 k2 k3 (by rw [e1]; exact hce) hcv hcl T' rfl X'
    exact ⟨t2, st.trans a1, b1⟩
theorem vx_callv {S SX : Type} {post : S → Prop} {px : SX → Prop} {B : S → State → Prop} {BX : String → SX → State → Prop} {AX : Nat → Prop} (hr : vx_Run p l e R s m args below meth c H locs cells slots mc ms (F0 m pc ls st0) rest (va_Qv post B A1 a) (vx_X px BX AX) free) (hS : va_S A0 H0 H locs) (hA : ∀ q, q < H.size → A1 q → A0 q) (hf : ∀ q, free q → A0 q) (hAX : ∀ q, q < H.size → AX q → A0 q)
    (kx : ∀ (E : String) (ce : Cell) (q9 : Addr) (u : SX) (t : State) (H1 : Heap) (locs1 : List Loc), t.heap = H1 → s.vm.Alike t.vm → px u → BX E u t → H.size ≤ H1.size → (∀ q : Nat, q < H.size → ¬ AX q → H1[q]? = H[q]?) → va_S A0 H0 H1 locs1 → H1[q9]? = some ce → ce.vm = .none → s.vm.findClass E = some ce.cls → vx_W p l e R s m args below meth c H1 locs1 (cells + mc) (slots + ms) Q (F0 m pc ls rest) q9)
    (kk : ∀ (u : S) (t : State) (H1 : Heap) (locs1 : List Loc), t.heap = H1 → s.vm.Alike t.vm → post u → B u t → H.size ≤ H1.size → (∀ q : Nat, q < H.size → ¬ A1 q → H1[q]? = H[q]?) → va_S A0 H0 H1 locs1 → W p l e R s m args below meth c H1 locs1 (cells + mc) (slots + ms) Q (F0 m (pc + 3) ls (rest))) : W p l e R s m args below meth c H locs cells slots Q (F0 m pc ls st0) := by
  intro T hT X
  rcases hr T hT X with ⟨v, st₀, t, T', L, h0, X', hL, e1, e2, ⟨⟨u, hv, hp, hb⟩, hF⟩, st⟩ | ⟨q, st₀, t, T', L, E, ce, h0, X', hL, e1, e2, ⟨u, hp, hb, hF⟩, hce, hcv, hcl, st⟩
  · cases hv
    obtain ⟨k1, k2, k3⟩ := vx_keep h0 e1 hS hA hf hL hF
    obtain ⟨t2, a1, b1⟩ := kk u t T'.heap (locs ++ L) e1.symm (by rw [← e2]; exact X'.warmed.alike) hp hb k1 k2 k3 T' rfl X'
    exact ⟨t2, st t2 a1, b1⟩
  · obtain ⟨k1, k2, k3⟩ := vx_keep h0 e1 hS hAX hf hL hF
    obtain ⟨t2, a1, b1⟩ := kx E ce q u t T'.heap (locs ++ L) e1.symm (by rw [← e2]; exact X'.warmed.alike) hp hb k1 k2 k3 (by rw [e1]; exact hce) hcv hcl T' rfl X'
    exact ⟨t2, st.trans a1, b1⟩
/-- caught by the row x of this method's table; the rows ahead don't take it -/
theorem vx_catch {own name : String} {E : String} {ce : Cell} {q : Addr} (hown : s.vm.findClass own = some m.cls) (pre : List ExceptionTableEntry) (x : ExceptionTableEntry) (suf : List ExceptionTableEntry) (hsplit : c.exceptionTable.toList = pre ++ x :: suf)
    (hpass : ∀ z ∈ pre, covers z pc = false ∨ (z.catchType ≠ 0 ∧ ∃ nm : String, (Cond.classLink own z.catchType nm).before args s = true ∧ va_Nc E nm s)) (hx : covers x pc = true) (h0 : x.catchType ≠ 0)
    (hlink : (Cond.classLink own x.catchType name).before args s = true) (hcast : (Cond.castable E name).before args s = true) (hcell : H[q]? = some ce) (hv : ce.vm = .none) (hcl : s.vm.findClass E = some ce.cls)
    (kk : W p l e R s m args below meth c H locs cells slots Q (F0 m x.handlerPc ls [.ref q])) : vx_W p l e R s m args below meth c H locs cells slots Q (F0 m pc ls rest) q := by
  intro T hT X
  have hpl : e.platform.magicAccessors = ({} : Platform).magicAccessors := by rw [X.admits.platform]
  obtain ⟨c3, c4, hc3, hc4, hasg⟩ := Cond.castable_spec hcast
  cases Option.some.inj (hc3.symm.trans hcl)
  obtain ⟨c5, hc5, hcl5⟩ := Cond.classLink_spec hown hlink e.platform hpl
  cases Option.some.inj (hc4.symm.trans hc5)
  obtain ⟨vm', X', st⟩ := X.thenCaughtThrough q (g := F0 m pc ls rest) rfl (Steps.refl _) (by rw [hT]; exact hcell) (by rw [hv]; rfl) (by obtain ⟨k9, h9, -⟩ := Vm.findClass_spec hcl; exact ⟨k9, h9⟩) pre x suf hsplit
    (fun z hz => by
      rcases hpass z hz with h | ⟨hz0, nm, hl1, hn1⟩
      · exact Or.inl h
      · obtain ⟨c6, hc6, hcl6⟩ := Cond.classLink_spec hown hl1 e.platform hpl
        obtain ⟨a8, b8, h1, h2, h3⟩ := hn1
        cases Option.some.inj (h1.symm.trans hcl)
        cases Option.some.inj (h2.symm.trans hc6)
        exact Or.inr ⟨hz0, _, hcl6, h3⟩) hx (Or.inr ⟨h0, c4, hcl5, hasg⟩)
  obtain ⟨t, a1, b1⟩ := kk (T.setVm vm') hT X'
  exact ⟨t, st.trans a1, b1⟩
end Rows
section Ends
variable {p : Program} {l : Launch} {e : Env} {R : Room} {s : State} {m : MethodId} {args : Array Value} {below : List Frame} {meth : Method} {c : Code} {H : Heap} {locs : List Loc} {cells slots : Nat} {Q : State → Prop}
variable {mc ms : Nat} {free : Addr → Prop} {A0 A1 : Nat → Prop} {H0 : Heap} {a : Array Value} {ls : Array Slot} {st0 rest : List Value}
variable {Qc : Array Value → State → Outcome → State → Prop} {XC : String → State → State → Prop}
/-- what a body that may throw owes at its end -/
def vx_MQ (below : List Frame) (Qc : Array Value → State → Outcome → State → Prop) (XC : String → State → State → Prop) (a : Array Value) (s : State) (mc ms : Nat) (free : Addr → Prop) : State → Prop := fun t =>
  ∃ o, t.status = .running ∧ Ended t below o ∧ vx_Q Qc XC mc ms free a s o t
theorem vx_ret {g : JFrame} {mc ms : Nat} (k : W p l e R s m args below meth c H locs cells slots (MQ below Qc args s mc ms free) g) : W p l e R s m args below meth c H locs cells slots (vx_MQ below Qc XC args s mc ms free) g := by
  intro T hT X
  obtain ⟨t, a1, o, b1, b2, b3, b4⟩ := k T hT X
  exact ⟨t, a1, o, b1, b2, Or.inl ⟨b3, b4⟩⟩
/-- not caught here: it goes on to the caller -/
theorem vx_widen {g : JFrame} {q : Addr} {k n : Nat} (h1 : cells ≤ k) (h2 : slots ≤ n) (kk : vx_W p l e R s m args below meth c H locs k n Q g q) : vx_W p l e R s m args below meth c H locs cells slots Q g q := fun T hT X => kk T hT (stand_widen X h1 h2)
theorem vx_out {pc : Nat} {E : String} {ce : Cell} {q : Addr} {mc ms : Nat} (hout : ∀ x ∈ c.exceptionTable.toList, covers x pc = false) (hlocks : meth.locks = false) (hcell : H[q]? = some ce) (hv : ce.vm = .none) (hcl : s.vm.findClass E = some ce.cls)
    (hx : ∀ t : State, t.heap = H → s.vm.Alike t.vm → XC E s t) (hf : ∀ z ∈ locs, free z.base) (hc : cells ≤ mc) (hs : slots ≤ ms) :
    vx_W p l e R s m args below meth c H locs cells slots (vx_MQ below Qc XC args s mc ms free) (F0 m pc ls rest) q := by
  intro T hT X
  obtain ⟨st1, hrun, hend, hW, hsm⟩ := X.leaveThrown q (g := F0 m pc ls rest) rfl rfl rfl hout hlocks
  have hcell9 : (T.setFrames (.throwing q :: below)).heap[q]? = some ce := by
    show T.heap[q]? = some ce
    rw [hT]; exact hcell
  exact ⟨_, st1, .threw q, hrun, hend, Or.inr ⟨q, rfl, E, ce, locs, hx _ hT hW.alike, hcell9, hv, hcl, hW, hsm.mono hc hs, hf⟩⟩
theorem vx_frame {U : State} {k n : Nat} (h : s.sameButNew ({ U with vm := s.vm } : State) locs k n) : s.heap.size ≤ U.heap.size ∧ ∀ q : Nat, q < s.heap.size → (∀ z ∈ locs, z.base ≠ q) → U.heap[q]? = s.heap[q]? := by
  obtain ⟨-, h2, -, -, -, h6⟩ := h
  refine ⟨h2, fun q hq hz => ?_⟩
  obtain ⟨c9, e1, e2, e3, e4⟩ := h6 q _ (Array.getElem?_eq_getElem hq)
  have hs : c9.slots = (s.heap[q]).slots := Array.ext_getElem? fun i => e4 i fun hm => hz _ hm rfl
  have h9 : c9 = s.heap[q] := by
    rw [hs] at e2
    exact e2
  have e5 : U.heap[q]? = some c9 := e1
  rw [e5, h9, Array.getElem?_eq_getElem hq]
/-- the words of a throw but the four that speak of the heap -/
def vx_no (w : Cond) : Bool := decide (w ≠ .isRef (.static Bundle.tN "UNASSIGNED_STACK" Bundle.steD)) && decide (w ≠ .isRef (.static Bundle.tN "SUPPRESSED_SENTINEL" Bundle.listD)) && decide (w ≠ .laysStatic Bundle.tN "UNASSIGNED_STACK" Bundle.steD) && decide (w ≠ .laysStatic Bundle.tN "SUPPRESSED_SENTINEL" Bundle.listD)
def vx_at0 (own : String) (ic : Nat) (X : String) (names : List String) : List Cond := (Bundle.ownAtoms0 own ic X names).filter vx_no
def vx_atS (own : String) (ic : Nat) (X : String) (names : List String) : List Cond := (Bundle.ownAtoms own ic X names).filter vx_no
/-- a word that the tables alone decide, or a good one -/
def vx_ot (w : Cond) : Bool := w.onTables || goodWord w
theorem vx_ot_at {args a' : Array Value} {s U : State} {w : Cond} (hW : s.WarmedH U.vm) (hvm : s.vm = U.vm) (hg : vx_ot w = true) (h : w.before args s = true) : w.before a' U = true := by
  simp only [vx_ot, Bool.or_eq_true] at hg
  rcases hg with hg | hg
  · exact va_tabs hg hvm h
  · exact word_at hW (good_of_word hg) h
/-- a list's words: the good ones out of the method's own list, the others by premises of their own -/
theorem vx_hat {args : Array Value} {s : State} {L B : List Cond} (h1 : ∀ w ∈ L.filter goodWord, w.before args s = true) (h2 : ∀ w ∈ L.filter (fun w => !goodWord w), w ∈ B) (h3 : ∀ w ∈ B, w.before args s = true) : ∀ w ∈ L, w.before args s = true := by
  intro w hw
  by_cases g : goodWord w = true
  · exact h1 w (List.mem_filter.mpr ⟨hw, g⟩)
  · refine h3 w (h2 w (List.mem_filter.mpr ⟨hw, ?_⟩))
    show (!goodWord w) = true
    cases hgw : goodWord w
    · rfl
    · exact absurd hgw g
theorem vx_c {args : Array Value} {s : State} {w : Cond} {B : List Cond} (h : w.before args s = true) (t : ∀ w ∈ B, w.before args s = true) : ∀ w' ∈ w :: B, w'.before args s = true := fun w' h' => (List.mem_cons.mp h').elim (fun e => by rw [e]; exact h) (t w')
theorem vx_n {args : Array Value} {s : State} : ∀ w ∈ ([] : List Cond), w.before args s = true := fun _ h => nomatch h
theorem vx_own {args : Array Value} {s : State} {L : List Cond} (h1 : ∀ w ∈ L.filter vx_no, w.before args s = true)
    (hU : (Cond.isRef (.static Bundle.tN "UNASSIGNED_STACK" Bundle.steD)).before args s = true) (hN : (Cond.isRef (.static Bundle.tN "SUPPRESSED_SENTINEL" Bundle.listD)).before args s = true)
    (lU : (Cond.laysStatic Bundle.tN "UNASSIGNED_STACK" Bundle.steD).before args s = true) (lN : (Cond.laysStatic Bundle.tN "SUPPRESSED_SENTINEL" Bundle.listD).before args s = true) : ∀ w ∈ L, w.before args s = true := by
  intro w hw
  by_cases e1 : w = .isRef (.static Bundle.tN "UNASSIGNED_STACK" Bundle.steD)
  · rw [e1]; exact hU
  · by_cases e2 : w = .isRef (.static Bundle.tN "SUPPRESSED_SENTINEL" Bundle.listD)
    · rw [e2]; exact hN
    · by_cases e3 : w = .laysStatic Bundle.tN "UNASSIGNED_STACK" Bundle.steD
      · rw [e3]; exact lU
      · by_cases e4 : w = .laysStatic Bundle.tN "SUPPRESSED_SENTINEL" Bundle.listD
        · rw [e4]; exact lN
        · exact h1 w (List.mem_filter.mpr ⟨hw, by unfold vx_no; rw [decide_eq_true e1, decide_eq_true e2, decide_eq_true e3, decide_eq_true e4]; rfl⟩)
/-- where a static field lies, its class's statics cell in H -/
def vx_L (C n d : String) (A : Nat → Prop) (U : State) (H : Heap) : Prop := ∃ (c : ClassId) (k : Class) (i : Nat) (f : Field) (a : Nat) (cell : Cell), U.vm.findClass C = some c ∧ U.fieldFound? C n d = some (c, k, i, f) ∧ f.isStatic = true ∧ k.statics = some a ∧ H[a]? = some cell ∧ cell.vm.isStatics = true ∧ cell.cls = c ∧ f.slot < cell.slots.size ∧ k.staticTypes[f.slot]? = some f.type ∧ ¬ A a
theorem vx_L.moved {C n d : String} {A : Nat → Prop} {u U : State} {H : Heap} (hvm : u.vm.Alike U.vm) (h : vx_L C n d A u H) : vx_L C n d A U H := by
  obtain ⟨c, k, i, f, a, cell, h1, h2, h3, h4, h5, h6, h7, h8, h9, h10⟩ := h
  obtain ⟨k', hi', he⟩ := State.fieldFound?_setVm hvm h2
  exact ⟨c, k', i, f, a, cell, by rw [hvm.findClass]; exact h1, hi', h3, by rw [he]; exact h4, h5, h6, h7, h8, by rw [he]; exact h9, h10⟩
theorem vx_L.kept {C n d : String} {A : Nat → Prop} {U : State} {H H1 : Heap} (h : vx_L C n d A U H) (hq : ∀ a : Nat, a < H.size → ¬ A a → H1[a]? = H[a]?) : vx_L C n d A U H1 := by
  obtain ⟨c, k, i, f, a, cell, h1, h2, h3, h4, h5, h6, h7, h8, h9, h10⟩ := h
  exact ⟨c, k, i, f, a, cell, h1, h2, h3, h4, by rw [hq a (Array.getElem?_eq_some_iff.mp h5).1 h10]; exact h5, h6, h7, h8, h9, h10⟩
theorem vx_L.narrow {C n d : String} {A B : Nat → Prop} {U : State} {H : Heap} (h : vx_L C n d A U H) (hAB : ∀ q, B q → A q) : vx_L C n d B U H := by
  obtain ⟨c, k, i, f, a, cell, h1, h2, h3, h4, h5, h6, h7, h8, h9, h10⟩ := h
  exact ⟨c, k, i, f, a, cell, h1, h2, h3, h4, h5, h6, h7, h8, h9, fun z => h10 (hAB _ z)⟩
theorem vx_L.word {C n d : String} {A : Nat → Prop} {s : State} {args : Array Value} (h : vx_L C n d A s s.heap) : (Cond.laysStatic C n d).before args s = true := by
  obtain ⟨c, k, i, f, a, cell, h1, h2, h3, h4, h5, h6, h7, h8, h9, -⟩ := h
  show (Cond.laysStatic C n d).holds args s none s [] = true
  exact Cond.laysStatic_of h1 h2 h3 h4 h5 h6 h7 h8 h9
/-- .. and what it holds: null or some reference -/
def vx_Zq (C n d : String) (A : Nat → Prop) (U : State) (H : Heap) : Prop := va_Zq C n d A U H ∧ vx_L C n d A U H
theorem vx_Zq.moved {C n d : String} {A : Nat → Prop} {u U : State} {H : Heap} (hvm : u.vm.Alike U.vm) (h : vx_Zq C n d A u H) : vx_Zq C n d A U H := ⟨va_Zq.moved hvm h.1, vx_L.moved hvm h.2⟩
theorem vx_Zq.kept {C n d : String} {A : Nat → Prop} {U : State} {H H1 : Heap} (h : vx_Zq C n d A U H) (hq : ∀ a : Nat, a < H.size → ¬ A a → H1[a]? = H[a]?) : vx_Zq C n d A U H1 := ⟨va_Zq.kept h.1 hq, vx_L.kept h.2 hq⟩
theorem vx_Zq.narrow {C n d : String} {A B : Nat → Prop} {U : State} {H : Heap} (h : vx_Zq C n d A U H) (hAB : ∀ q, B q → A q) : vx_Zq C n d B U H := ⟨va_Zq.narrow h.1 hAB, vx_L.narrow h.2 hAB⟩
theorem vx_Zqof {args : Array Value} {s : State} {C n d : String} {A : Nat → Prop} (hl : (Cond.laysStatic C n d).before args s = true) (hini : (Cond.initialized C).before args s = true) (h : (Cond.isRef (.static C n d)).before args s = true) (hA : ∀ a : Nat, a < s.heap.size → ¬ A a) : vx_Zq C n d A s s.heap := by
  refine ⟨va_Zqof hl hini h hA, ?_⟩
  obtain ⟨c, k, i, f, a, cell, h1, h2, h3, h4, h5, h6, h7, h8, h9⟩ := Cond.laysStatic_spec hl
  exact ⟨c, k, i, f, a, cell, h1, h2, h3, h4, h5, h6, h7, h8, h9, hA a (Array.getElem?_eq_some_iff.mp h5).1⟩
theorem vx_isRef {C n d : String} {v : Value} {A : Nat → Prop} {s : State} {args : Array Value} (h : va_Z C n d v A s s.heap) (hv : v.isRef = true) : (Cond.isRef (.static C n d)).before args s = true := by
  obtain ⟨cf, kf, fi, f, a, cell, h1, h2, h3, h4, h5, h6, h7, -⟩ := h
  have he : (Term.static C n d).eval args s none [] s = some v := by
    simp [Term.eval, State.fieldNamed?, h1, h2, h4, h5, h6, h7]
  simp only [Cond.before, Cond.holds, Cond.value, he]
  cases v <;> simp_all [Value.isRef]
theorem vx_isRefq {C n d : String} {A : Nat → Prop} {s : State} {args : Array Value} (h : va_Zq C n d A s s.heap) : (Cond.isRef (.static C n d)).before args s = true := by
  rcases h with h | ⟨t, h⟩
  · exact vx_isRef h rfl
  · exact vx_isRef h rfl
/-- the same frame, seen from here: as if the method were called anew in this heap -/
theorem vx_rebase {T : State} (X : Stand p l e R s m args below meth c T locs cells slots) {R' : Room} (hf : R'.frames ≤ R.frames) (hl : R'.locals ≤ R.locals) (hc : cells + R'.cells ≤ R.cells) (hs : slots + R'.slots ≤ R.slots) :
    Stand p l e R' ((T.setVm s.vm).setFrames (.invoking m args :: below)) m args below meth c T [] 0 0 := by
  have htop : (T.setVm s.vm).topJava?.isSome := X.here.top
  have hF : ((T.setVm s.vm).setFrames (.invoking m args :: below)).frames = .invoking m args :: below := State.frames_setFrames _ (State.cur_lt_of_top htop)
  obtain ⟨g₀, hg0⟩ := Option.isSome_iff_exists.mp htop
  obtain ⟨r, hr⟩ := State.topJava?_eq_some.mp hg0
  have hl9 : e.platform.stackLimits (T.setVm s.vm).me = e.platform.stackLimits s.me := X.limits
  have hb9 : (T.setVm s.vm).me.stackBytes = s.me.stackBytes := X.bytes
  refine ⟨X.admits, X.cas, X.clock, hF, ?_, X.hears, X.method, X.code, X.here, X.tail, X.warmed, ?_, ?_, ?_⟩
  · have h := X.room
    have hU : ((T.setVm s.vm).setFrames (.invoking m args :: below)).localsInUse = s.localsInUse := by
      rw [State.localsInUse_invoking hF (meth := meth) (c := c) X.method X.code, State.localsInUse_invoking X.frames X.method X.code]
    simp only [State.hasRoom, Bool.and_eq_true, decide_eq_true_eq] at h ⊢
    obtain ⟨⟨⟨⟨h1, h2, h3, h4, h5, h6⟩, h7⟩, h8⟩, h9⟩ := h
    rw [X.frames, List.length_cons] at h2 h3
    have q1 := X.heapSize
    have q2 := X.used
    simp only [hF, hU, List.length_cons, State.stackLimits_setFrames, State.stackBytes_setFrames, hl9, hb9]
    refine ⟨⟨⟨⟨by omega, by omega, by omega, by omega, by omega, h6⟩, ?_⟩, ?_⟩, X.book⟩
    · show T.heap.size + R'.cells ≤ e.platform.maxCells
      omega
    · show T.slotsUsed + R'.slots ≤ e.platform.maxSlots
      omega
  · rw [State.stackLimits_setFrames]; rfl
  · rw [State.stackBytes_setFrames]; rfl
  · refine ⟨?_, Nat.le_refl _, Nat.le_refl _, ?_, ?_, fun a c9 h9 => ⟨c9, h9, rfl, rfl, fun _ _ => rfl⟩⟩
    · obtain ⟨t, ht, -⟩ := State.frames_cons hr
      show T.setVm s.vm = { ((T.setVm s.vm).setFrames (.invoking m args :: below)).setFrames (T.setVm s.vm).frames with heap := T.heap, slotsUsed := T.slotsUsed }
      rw [State.setFrames_setFrames, State.setFrames_self ht]
      rfl
    · show T.slotsUsed = T.slotsUsed + ((T.heap.toList.drop T.heap.size).map (·.slots.size)).sum
      rw [List.drop_eq_nil_of_le (Nat.le_of_eq Array.length_toList)]
      rfl
    · show ((T.heap.toList.drop T.heap.size).map (·.slots.size)).sum ≤ 0
      rw [List.drop_eq_nil_of_le (Nat.le_of_eq Array.length_toList)]
      exact Nat.le_refl _
/-- 'throw new E()': new; dup; invokespecial; athrow -/
theorem vx_throw0 {cc : ByteArray} {pc : Nat} (hexec : p.tables.exec = Jvm.exec) (hb : c.code = cc) (hl : l.stackTraces = false) {own cls : String} {names : List String} {ik ic mc ms : Nat} {A : Nat → Prop}
    (hown : s.vm.findClass own = some m.cls) (hcls : Bundle.fit cls = true) (hnames : ∀ n ∈ names, Bundle.fit n = true)
    (hk : (Cond.classLink own ik cls).before args s = true) (hini : (Cond.initialized cls).before args s = true) (hat : ∀ w ∈ vx_at0 own ic cls names, w.before args s = true)
    (hgood : ∀ w ∈ Cond.classLink own ik cls :: Cond.initialized cls :: vx_at0 own ic cls names, vx_ot w = true)
    (hU : vx_Zq Bundle.tN "UNASSIGNED_STACK" Bundle.steD A s s.heap) (hN : vx_Zq Bundle.tN "SUPPRESSED_SENTINEL" Bundle.listD A s s.heap) (hS : va_S A s.heap H locs) (hsize : ls.size = c.maxLocals)
    (d0 : decode cc pc = .ok (.new ik, 3)) (d3 : decode cc (pc + 3) = .ok (.dup, 1)) (d4 : decode cc (pc + 4) = .ok (.invokespecial ic, 3)) (d7 : decode cc (pc + 7) = .ok (.athrow, 1))
    (hout : ∀ x ∈ c.exceptionTable.toList, covers x (pc + 7) = false)
    (hRframes : names.length + 3 < R.frames) (hRlocals : (rest.map fun v => v.category).sum + (13 * (names.length + 1) + 42) ≤ R.locals) (hRcells : cells + 1 ≤ R.cells) (hRslots : slots + 6 ≤ R.slots) (hlocks : meth.locks = false)
    (hx : ∀ t : State, s.vm.Alike t.vm → H.size ≤ t.heap.size → (∀ q : Nat, q < H.size → t.heap[q]? = H[q]?) → XC cls s t)
    (hf : ∀ z ∈ locs, free z.base) (hc : cells + 1 ≤ mc) (hs : slots + 6 ≤ ms) :
    W p l e R s m args below meth c H locs cells slots (vx_MQ below Qc XC args s mc ms free) (F0 m pc ls rest) := by
  intro T hT X
  have htr : e.platform.stackTraces = false := (show e.platform.stackTraces = l.stackTraces by rw [X.admits.platform]).trans hl
  have Y := vx_rebase X (R' := { frames := R.frames, locals := R.locals, cells := 1, slots := 6 }) (Nat.le_refl _) (Nat.le_refl _) hRcells hRslots
  obtain ⟨s', hA⟩ : ∃ z, z = (T.setVm s.vm).setFrames (.invoking m args :: below) := ⟨_, rfl⟩
  rw [← hA] at Y
  have hvm : s'.vm = s.vm := by rw [hA]; rfl
  have hhp : s'.heap = H := by rw [hA]; exact hT
  have hW0 : s.WarmedH s'.vm := by rw [hvm]; exact State.WarmedH.refl s
  have hat' : ∀ w ∈ vx_at0 own ic cls names, w.before args s' = true := fun w hw => vx_ot_at hW0 hvm.symm (hgood w (List.mem_cons_of_mem _ (List.mem_cons_of_mem _ hw))) (hat w hw)
  have hk' : (Cond.classLink own ik cls).before args s' = true := vx_ot_at hW0 hvm.symm (hgood _ List.mem_cons_self) hk
  have hini' : (Cond.initialized cls).before args s' = true := vx_ot_at hW0 hvm.symm (hgood _ (List.mem_cons_of_mem _ List.mem_cons_self)) hini
  have hU' : vx_Zq Bundle.tN "UNASSIGNED_STACK" Bundle.steD A s' s'.heap := by rw [hhp]; exact vx_Zq.moved hW0.alike (hU.kept hS.2.1)
  have hN' : vx_Zq Bundle.tN "SUPPRESSED_SENTINEL" Bundle.listD A s' s'.heap := by rw [hhp]; exact vx_Zq.moved hW0.alike (hN.kept hS.2.1)
  have h : ∀ w ∈ Bundle.ownAtoms0 own ic cls names, w.before args s' = true := vx_own hat' (vx_isRefq hU'.1) (vx_isRefq hN'.1) hU'.2.word hN'.2.word
  have hown' : s'.vm.findClass own = some m.cls := by rw [hvm]; exact hown
  have hins : (Cond.instantiable cls 6).before args s' = true := h _ (by simp [Bundle.ownAtoms0])
  obtain ⟨vm₁, cX, kX, hfX, hkX, -, -, X₁, st1⟩ := Y.newCold hexec (own := own) (C := cls) (index := ik) (n := 6) hown' hk' hins hini'
    (g := F0 m pc ls rest) rfl (by rw [hb]; exact d0) (Nat.le_refl _) (Nat.le_refl _)
  generalize hT1 : (T.setVm vm₁).pushCell { cls := cX, slots := kX.instanceTypes.map defaultValue, vm := .none } = T1 at X₁ st1
  have hcat : (Value.ref T.heap.size).category = 1 := rfl
  have hcellA : T1.heap[T.heap.size]? = some (freshCell cX kX) := by rw [← hT1]; exact State.heap_pushCell_size _ _
  have d3' : decode c.code (pc + 3) = .ok (.dup, 1) := by rw [hb]; exact d3
  obtain ⟨U, hsteps, hrun, hend, hW, hsame, ce, hce, hO⟩ := X₁.ctorThrow0 hexec htr (own := own) (cls := cls) (names := names) (ic := ic) hown' hcls hnames h (fun x hx => nomatch hx) hfX hkX hcellA (by rw [hhp, hT]; exact Nat.le_refl _)
    (g := { method := m, pc := pc + 4, locals := ls, stack := .ref T.heap.size :: .ref T.heap.size :: rest, locked := none }) rfl hsize rfl rfl (rest := rest) rfl
    (by rw [hb]; exact d4) (by rw [hb]; exact d7) hout hRframes (by simp only [List.map_cons, List.sum_cons, hcat]; omega) hlocks
  obtain ⟨f1, f2⟩ := vx_frame hsame
  rw [hhp] at f1 f2
  have hWs : s.WarmedH U.vm := State.WarmedH.trans hW0 hW
  have hcl : s.vm.findClass cls = some ce.cls := by
    have h9 := hO.cls
    rw [hvm] at h9
    exact h9
  have hall : s.sameButNew ({ U with vm := s.vm } : State) locs mc ms := by
    subst hA
    obtain ⟨e1, e2⟩ := hsame
    rw [State.setFrames_setFrames] at e1
    have h2 : (T.setVm s.vm).sameButNew ({ U with vm := s.vm } : State) [] (0 + 1) (0 + 6) := ⟨e1, e2⟩
    have h3 := X.same.trans h2
    rw [List.append_nil] at h3
    exact h3.mono hc hs
  refine ⟨U, ?_, .threw T.heap.size, hrun, hend, Or.inr ⟨T.heap.size, rfl, cls, ce, locs, hx U hWs.alike f1 (fun q hq => f2 q hq (fun z hz => nomatch hz)), hce, hO.vm, hcl, hWs, hall, hf⟩⟩
  refine st1 _ ?_
  show Steps p.tables e below (T1.setTop { method := m, pc := pc + 3, locals := ls, stack := .ref T.heap.size :: rest, locked := none }) _
  jvm_step X₁.here [X₁.here.top, hexec, d3', Value.category]
  exact hsteps
/-- 'throw new E("text")': new; dup; ldc; invokespecial; athrow -/
theorem vx_throwS {cc : ByteArray} {pc : Nat} (hexec : p.tables.exec = Jvm.exec) (hb : c.code = cc) (hl : l.stackTraces = false) {own cls text : String} {names : List String} {ik is ic mc ms sa : Nat} {A : Nat → Prop}
    (hown : s.vm.findClass own = some m.cls) (hcls : Bundle.fit cls = true) (hnames : ∀ n ∈ names, Bundle.fit n = true)
    (hk : (Cond.classLink own ik cls).before args s = true) (hini : (Cond.initialized cls).before args s = true) (hstr : vk_R own is text sa s) (hat : ∀ w ∈ vx_atS own ic cls names, w.before args s = true)
    (hgood : ∀ w ∈ Cond.classLink own ik cls :: Cond.initialized cls :: vx_atS own ic cls names, vx_ot w = true)
    (hU : vx_Zq Bundle.tN "UNASSIGNED_STACK" Bundle.steD A s s.heap) (hN : vx_Zq Bundle.tN "SUPPRESSED_SENTINEL" Bundle.listD A s s.heap) (hS : va_S A s.heap H locs) (hsize : ls.size = c.maxLocals)
    (d0 : decode cc pc = .ok (.new ik, 3)) (d3 : decode cc (pc + 3) = .ok (.dup, 1)) (d4 : decode cc (pc + 4) = .ok (.ldc is, 2)) (d6 : decode cc (pc + 6) = .ok (.invokespecial ic, 3)) (d9 : decode cc (pc + 9) = .ok (.athrow, 1))
    (hout : ∀ x ∈ c.exceptionTable.toList, covers x (pc + 9) = false)
    (hRframes : names.length + 3 < R.frames) (hRlocals : (rest.map fun v => v.category).sum + (13 * (names.length + 1) + 43) ≤ R.locals) (hRcells : cells + 1 ≤ R.cells) (hRslots : slots + 6 ≤ R.slots) (hlocks : meth.locks = false)
    (hx : ∀ t : State, s.vm.Alike t.vm → H.size ≤ t.heap.size → (∀ q : Nat, q < H.size → t.heap[q]? = H[q]?) → XC cls s t)
    (hf : ∀ z ∈ locs, free z.base) (hc : cells + 1 ≤ mc) (hs : slots + 6 ≤ ms) :
    W p l e R s m args below meth c H locs cells slots (vx_MQ below Qc XC args s mc ms free) (F0 m pc ls rest) := by
  intro T hT X
  have htr : e.platform.stackTraces = false := (show e.platform.stackTraces = l.stackTraces by rw [X.admits.platform]).trans hl
  have Y := vx_rebase X (R' := { frames := R.frames, locals := R.locals, cells := 1, slots := 6 }) (Nat.le_refl _) (Nat.le_refl _) hRcells hRslots
  obtain ⟨s', hA⟩ : ∃ z, z = (T.setVm s.vm).setFrames (.invoking m args :: below) := ⟨_, rfl⟩
  rw [← hA] at Y
  have hvm : s'.vm = s.vm := by rw [hA]; rfl
  have hhp : s'.heap = H := by rw [hA]; exact hT
  have hW0 : s.WarmedH s'.vm := by rw [hvm]; exact State.WarmedH.refl s
  have hat' : ∀ w ∈ vx_atS own ic cls names, w.before args s' = true := fun w hw => vx_ot_at hW0 hvm.symm (hgood w (List.mem_cons_of_mem _ (List.mem_cons_of_mem _ hw))) (hat w hw)
  have hk' : (Cond.classLink own ik cls).before args s' = true := vx_ot_at hW0 hvm.symm (hgood _ List.mem_cons_self) hk
  have hini' : (Cond.initialized cls).before args s' = true := vx_ot_at hW0 hvm.symm (hgood _ (List.mem_cons_of_mem _ List.mem_cons_self)) hini
  have hU' : vx_Zq Bundle.tN "UNASSIGNED_STACK" Bundle.steD A s' s'.heap := by rw [hhp]; exact vx_Zq.moved hW0.alike (hU.kept hS.2.1)
  have hN' : vx_Zq Bundle.tN "SUPPRESSED_SENTINEL" Bundle.listD A s' s'.heap := by rw [hhp]; exact vx_Zq.moved hW0.alike (hN.kept hS.2.1)
  have h : ∀ w ∈ Bundle.ownAtoms own ic cls names, w.before args s' = true := vx_own hat' (vx_isRefq hU'.1) (vx_isRefq hN'.1) hU'.2.word hN'.2.word
  have hown' : s'.vm.findClass own = some m.cls := by rw [hvm]; exact hown
  have hins : (Cond.instantiable cls 6).before args s' = true := h _ (by simp [Bundle.ownAtoms])
  obtain ⟨vm₁, cX, kX, hfX, hkX, -, -, X₁, st1⟩ := Y.newCold hexec (own := own) (C := cls) (index := ik) (n := 6) hown' hk' hins hini'
    (g := F0 m pc ls rest) rfl (by rw [hb]; exact d0) (Nat.le_refl _) (Nat.le_refl _)
  generalize hT1 : (T.setVm vm₁).pushCell { cls := cX, slots := kX.instanceTypes.map defaultValue, vm := .none } = T1 at X₁ st1
  have hcat : (Value.ref T.heap.size).category = 1 := rfl
  have hcellA : T1.heap[T.heap.size]? = some (freshCell cX kX) := by rw [← hT1]; exact State.heap_pushCell_size _ _
  have d3' : decode c.code (pc + 3) = .ok (.dup, 1) := by rw [hb]; exact d3
  have d4' : decode c.code (pc + 4) = .ok (.ldc is, 2) := by rw [hb]; exact d4
  have hstr' : vk_R own is text sa s' := vk_R.warm hW0 hstr
  obtain ⟨U, hsteps, hrun, hend, hW, hsame, ce, hce, hO⟩ := X₁.ctorThrowS hexec htr (own := own) (cls := cls) (names := names) (ic := ic) hown' hcls hnames h (fun x hx => nomatch hx) hfX hkX hcellA (by rw [hhp, hT]; exact Nat.le_refl _) (msg := .ref sa) rfl
    (g := { method := m, pc := pc + 6, locals := ls, stack := .ref sa :: .ref T.heap.size :: .ref T.heap.size :: rest, locked := none }) rfl hsize rfl rfl (rest := rest) rfl
    (by rw [hb]; exact d6) (by rw [hb]; exact d9) hout hRframes (by simp only [List.map_cons, List.sum_cons, hcat]; omega) hlocks
  obtain ⟨f1, f2⟩ := vx_frame hsame
  rw [hhp] at f1 f2
  have hWs : s.WarmedH U.vm := State.WarmedH.trans hW0 hW
  have hcl : s.vm.findClass cls = some ce.cls := by
    have h9 := hO.cls
    rw [hvm] at h9
    exact h9
  have hall : s.sameButNew ({ U with vm := s.vm } : State) locs mc ms := by
    subst hA
    obtain ⟨e1, e2⟩ := hsame
    rw [State.setFrames_setFrames] at e1
    have h2 : (T.setVm s.vm).sameButNew ({ U with vm := s.vm } : State) [] (0 + 1) (0 + 6) := ⟨e1, e2⟩
    have h3 := X.same.trans h2
    rw [List.append_nil] at h3
    exact h3.mono hc hs
  refine ⟨U, ?_, .threw T.heap.size, hrun, hend, Or.inr ⟨T.heap.size, rfl, cls, ce, locs, hx U hWs.alike f1 (fun q hq => f2 q hq (fun z hz => nomatch hz)), hce, hO.vm, hcl, hWs, hall, hf⟩⟩
  refine st1 _ ?_
  show Steps p.tables e below (T1.setTop { method := m, pc := pc + 3, locals := ls, stack := .ref T.heap.size :: rest, locked := none }) _
  jvm_step X₁.here [X₁.here.top, hexec, d3', Value.category]
  exact X₁.ldcString hexec (own := own) (text := text) (index := is) (a := sa) hown' hstr'.1 hstr'.2
    (g := { method := m, pc := pc + 4, locals := ls, stack := .ref T.heap.size :: .ref T.heap.size :: rest, locked := none }) rfl d4' _ hsteps
/-- 'throw new E("text")', the text by a wide index -/
theorem vx_throwSW {cc : ByteArray} {pc : Nat} (hexec : p.tables.exec = Jvm.exec) (hb : c.code = cc) (hl : l.stackTraces = false) {own cls text : String} {names : List String} {ik is ic mc ms sa : Nat} {A : Nat → Prop}
    (hown : s.vm.findClass own = some m.cls) (hcls : Bundle.fit cls = true) (hnames : ∀ n ∈ names, Bundle.fit n = true)
    (hk : (Cond.classLink own ik cls).before args s = true) (hini : (Cond.initialized cls).before args s = true) (hstr : vk_R own is text sa s) (hat : ∀ w ∈ vx_atS own ic cls names, w.before args s = true)
    (hgood : ∀ w ∈ Cond.classLink own ik cls :: Cond.initialized cls :: vx_atS own ic cls names, vx_ot w = true)
    (hU : vx_Zq Bundle.tN "UNASSIGNED_STACK" Bundle.steD A s s.heap) (hN : vx_Zq Bundle.tN "SUPPRESSED_SENTINEL" Bundle.listD A s s.heap) (hS : va_S A s.heap H locs) (hsize : ls.size = c.maxLocals)
    (d0 : decode cc pc = .ok (.new ik, 3)) (d3 : decode cc (pc + 3) = .ok (.dup, 1)) (d4 : decode cc (pc + 4) = .ok (.ldc_w is, 3)) (d7 : decode cc (pc + 7) = .ok (.invokespecial ic, 3)) (d10 : decode cc (pc + 10) = .ok (.athrow, 1))
    (hout : ∀ x ∈ c.exceptionTable.toList, covers x (pc + 10) = false)
    (hRframes : names.length + 3 < R.frames) (hRlocals : (rest.map fun v => v.category).sum + (13 * (names.length + 1) + 43) ≤ R.locals) (hRcells : cells + 1 ≤ R.cells) (hRslots : slots + 6 ≤ R.slots) (hlocks : meth.locks = false)
    (hx : ∀ t : State, s.vm.Alike t.vm → H.size ≤ t.heap.size → (∀ q : Nat, q < H.size → t.heap[q]? = H[q]?) → XC cls s t)
    (hf : ∀ z ∈ locs, free z.base) (hc : cells + 1 ≤ mc) (hs : slots + 6 ≤ ms) :
    W p l e R s m args below meth c H locs cells slots (vx_MQ below Qc XC args s mc ms free) (F0 m pc ls rest) := by
  intro T hT X
  have htr : e.platform.stackTraces = false := (show e.platform.stackTraces = l.stackTraces by rw [X.admits.platform]).trans hl
  have Y := vx_rebase X (R' := { frames := R.frames, locals := R.locals, cells := 1, slots := 6 }) (Nat.le_refl _) (Nat.le_refl _) hRcells hRslots
  obtain ⟨s', hA⟩ : ∃ z, z = (T.setVm s.vm).setFrames (.invoking m args :: below) := ⟨_, rfl⟩
  rw [← hA] at Y
  have hvm : s'.vm = s.vm := by rw [hA]; rfl
  have hhp : s'.heap = H := by rw [hA]; exact hT
  have hW0 : s.WarmedH s'.vm := by rw [hvm]; exact State.WarmedH.refl s
  have hat' : ∀ w ∈ vx_atS own ic cls names, w.before args s' = true := fun w hw => vx_ot_at hW0 hvm.symm (hgood w (List.mem_cons_of_mem _ (List.mem_cons_of_mem _ hw))) (hat w hw)
  have hk' : (Cond.classLink own ik cls).before args s' = true := vx_ot_at hW0 hvm.symm (hgood _ List.mem_cons_self) hk
  have hini' : (Cond.initialized cls).before args s' = true := vx_ot_at hW0 hvm.symm (hgood _ (List.mem_cons_of_mem _ List.mem_cons_self)) hini
  have hU' : vx_Zq Bundle.tN "UNASSIGNED_STACK" Bundle.steD A s' s'.heap := by rw [hhp]; exact vx_Zq.moved hW0.alike (hU.kept hS.2.1)
  have hN' : vx_Zq Bundle.tN "SUPPRESSED_SENTINEL" Bundle.listD A s' s'.heap := by rw [hhp]; exact vx_Zq.moved hW0.alike (hN.kept hS.2.1)
  have h : ∀ w ∈ Bundle.ownAtoms own ic cls names, w.before args s' = true := vx_own hat' (vx_isRefq hU'.1) (vx_isRefq hN'.1) hU'.2.word hN'.2.word
  have hown' : s'.vm.findClass own = some m.cls := by rw [hvm]; exact hown
  have hins : (Cond.instantiable cls 6).before args s' = true := h _ (by simp [Bundle.ownAtoms])
  obtain ⟨vm₁, cX, kX, hfX, hkX, -, -, X₁, st1⟩ := Y.newCold hexec (own := own) (C := cls) (index := ik) (n := 6) hown' hk' hins hini'
    (g := F0 m pc ls rest) rfl (by rw [hb]; exact d0) (Nat.le_refl _) (Nat.le_refl _)
  generalize hT1 : (T.setVm vm₁).pushCell { cls := cX, slots := kX.instanceTypes.map defaultValue, vm := .none } = T1 at X₁ st1
  have hcat : (Value.ref T.heap.size).category = 1 := rfl
  have hcellA : T1.heap[T.heap.size]? = some (freshCell cX kX) := by rw [← hT1]; exact State.heap_pushCell_size _ _
  have d3' : decode c.code (pc + 3) = .ok (.dup, 1) := by rw [hb]; exact d3
  have d4' : decode c.code (pc + 4) = .ok (.ldc_w is, 3) := by rw [hb]; exact d4
  have hstr' : vk_R own is text sa s' := vk_R.warm hW0 hstr
  obtain ⟨U, hsteps, hrun, hend, hW, hsame, ce, hce, hO⟩ := X₁.ctorThrowS hexec htr (own := own) (cls := cls) (names := names) (ic := ic) hown' hcls hnames h (fun x hx => nomatch hx) hfX hkX hcellA (by rw [hhp, hT]; exact Nat.le_refl _) (msg := .ref sa) rfl
    (g := { method := m, pc := pc + 7, locals := ls, stack := .ref sa :: .ref T.heap.size :: .ref T.heap.size :: rest, locked := none }) rfl hsize rfl rfl (rest := rest) rfl
    (by rw [hb]; exact d7) (by rw [hb]; exact d10) hout hRframes (by simp only [List.map_cons, List.sum_cons, hcat]; omega) hlocks
  obtain ⟨f1, f2⟩ := vx_frame hsame
  rw [hhp] at f1 f2
  have hWs : s.WarmedH U.vm := State.WarmedH.trans hW0 hW
  have hcl : s.vm.findClass cls = some ce.cls := by
    have h9 := hO.cls
    rw [hvm] at h9
    exact h9
  have hall : s.sameButNew ({ U with vm := s.vm } : State) locs mc ms := by
    subst hA
    obtain ⟨e1, e2⟩ := hsame
    rw [State.setFrames_setFrames] at e1
    have h2 : (T.setVm s.vm).sameButNew ({ U with vm := s.vm } : State) [] (0 + 1) (0 + 6) := ⟨e1, e2⟩
    have h3 := X.same.trans h2
    rw [List.append_nil] at h3
    exact h3.mono hc hs
  refine ⟨U, ?_, .threw T.heap.size, hrun, hend, Or.inr ⟨T.heap.size, rfl, cls, ce, locs, hx U hWs.alike f1 (fun q hq => f2 q hq (fun z hz => nomatch hz)), hce, hO.vm, hcl, hWs, hall, hf⟩⟩
  refine st1 _ ?_
  show Steps p.tables e below (T1.setTop { method := m, pc := pc + 3, locals := ls, stack := .ref T.heap.size :: rest, locked := none }) _
  jvm_step X₁.here [X₁.here.top, hexec, d3', Value.category]
  exact X₁.ldcStringW hexec (own := own) (text := text) (index := is) (a := sa) hown' hstr'.1 hstr'.2
    (g := { method := m, pc := pc + 4, locals := ls, stack := .ref T.heap.size :: .ref T.heap.size :: rest, locked := none }) rfl d4' _ hsteps
end Ends
section Bodies
variable {l : Launch}
theorem vx_ofW {y : MethodName} {ws ws' : List Cond} {rm : Room} {Pc : Array Value → State → Prop} {Qc : Array Value → State → Outcome → State → Prop} {XC : String → State → State → Prop} {mc ms : Nat} {free : Addr → Prop} {cc : ByteArray} {maxL : Nat} {ret : Option FieldType}
    (hy : plainName y.cls = true) (hw : ws = Cond.code y cc maxL ret :: ws')
    (body : ∀ p e s m args below meth c s₁, BodyLoose p l y (headSpec ws rm) cc maxL ret e s m args below meth c s₁ → c.maxLocals = maxL → (∀ x ∈ c.exceptionTable.toList, False) → Pc args s →
      W p l e (headSpec ws rm).room s m args below meth c s.heap [] 0 0 (vx_MQ below Qc XC args s mc ms free) (entryFrame m args maxL)) : vx_Met l y ws rm Pc Qc XC mc ms free := by
  refine MetFree.of_bodyS (code := cc) (maxLocals := maxL) (ret := ret) hy ?_ ?_
  · intro args s m h hn
    obtain ⟨meth, c, h1, h2, h3, h4, h5, h6, -, -⟩ := Cond.code_spec hn (atoms_spec (ws := ws) h _ (by rw [hw]; exact List.mem_cons_self))
    exact ⟨meth, c, h1, h2, h3, h4, h5, h6⟩
  · intro p e s m args below meth c s₁ B hml hP _
    have hh0 : s₁.heap = s.heap := by rw [B.state]; rfl
    have ht : ∀ x ∈ c.exceptionTable.toList, False := by
      obtain ⟨meth9, c9, h1, h2, -, -, -, -, h7, -⟩ := Cond.code_spec B.named (atoms_spec (ws := ws) B.pre _ (by rw [hw]; exact List.mem_cons_self))
      cases Option.some.inj (h1.symm.trans B.method)
      cases Option.some.inj (h2.symm.trans (Stand.of_body B).code)
      intro x hx
      rw [Array.isEmpty_iff.mp h7] at hx
      cases hx
    obtain ⟨t, a1, o, b1, b2, b3⟩ := body p e s m args below meth c s₁ B hml ht hP s₁ hh0 (Stand.of_body B)
    exact ⟨t, o, a1, b1, b2, b3⟩
/-- the table of a body with handlers -/
theorem vx_table {p : Program} {x y : MethodName} {S : Spec} {cc bytes : ByteArray} {maxL maxL' : Nat} {ret ret' : Option FieldType} {e : Env} {s s₁ : State} {m : MethodId} {args : Array Value} {below : List Frame} {meth : Method} {c : Code} {hh : List (Nat × Nat × Nat × Nat)}
    (B : BodyLoose p l y S cc maxL ret e s m args below meth c s₁) (h : (Cond.codeWith y bytes maxL' ret' hh).before args s = true) : c.exceptionTable.toList = tableOf hh := by
  obtain ⟨m9, meth9, c9, hn9, h1, h2, -, -, h6, -⟩ := Cond.codeWith_spec h
  cases Option.some.inj (hn9.symm.trans B.named)
  cases Option.some.inj (h1.symm.trans B.method)
  cases Option.some.inj (h2.symm.trans (Stand.of_body B).code)
  rw [← h6, table_eq]
end Bodies
end VXA
/-! ===== END ===== -/
/-! ===== BEGIN a static call of a method with an exception table ===== -/
section VXS
variable {p : Program} {l : Launch} {e : Env} {R : Room} {s : State} {m : MethodId} {args : Array Value} {below : List Frame} {meth : Method} {c : Code} {T : State} {H : Heap} {locs : List Loc} {cells slots : Nat}
abbrev vx_CSW (R : Room) (s : State) (args : Array Value) (own : String) (index : Nat) (y : MethodName) (bytes : ByteArray) (maxL : Nat) (ret : Option FieldType) (hh : List (Nat × Nat × Nat × Nat)) (ws : List Cond) (rm : Room) (mc ms n : Nat) : Prop :=
  (rm.cells = mc ∧ rm.slots = ms ∧ rm.frames + 1 ≤ R.frames ∧ 8 + (maxL + 11) + rm.locals ≤ R.locals ∧ (∀ w ∈ ws, ∀ (a' : Array Value) (U : State), s.WarmedH U.vm → w.before a' U = true) ∧ Cond.codeWith y bytes maxL ret hh ∈ ws) ∧
  (Cond.codeWith y bytes maxL ret hh).before args s = true ∧ (Cond.initialized y.cls).before args s = true ∧ (y.cls ≠ "java/lang/invoke/MethodHandle" ∧ y.cls ≠ "java/lang/invoke/VarHandle") ∧
  (∀ sig, parseMethodDescriptor y.desc = some sig → n = sig.parameters.length) ∧ (Cond.methodLink own index y).before args s = true ∧ (Cond.static y).before args s = true
theorem vx_cwSW {own : String} {index maxL mc ms : Nat} {y : MethodName} {bytes : ByteArray} {ret : Option FieldType} {hh : List (Nat × Nat × Nat × Nat)} {Ts ws ws' : List Cond} {rm : Room} (n : Nat) (ht : ∀ w ∈ Ts, w.before args s = true) (hT : GoodIn Ts (va_wsS own index y ws)) (hw : ws = Cond.codeWith y bytes maxL ret hh :: ws') (hrc : rm.cells = mc) (hrs : rm.slots = ms)
    (hd : y.cls ≠ "java/lang/invoke/MethodHandle" ∧ y.cls ≠ "java/lang/invoke/VarHandle" ∧ (parseMethodDescriptor y.desc).map (fun d => d.parameters.length) = some n) (hR : rm.frames + 1 ≤ R.frames ∧ 8 + (maxL + 11) + rm.locals ≤ R.locals) :
    vx_CSW R s args own index y bytes maxL ret hh ws rm mc ms n := by
  have ok : ∀ w ∈ va_wsS own index y ws, w.before args s = true := fun w h => ht w (hT w h).1
  have hG : GoodIn Ts ws := fun w h => hT w (by unfold va_wsS; exact List.mem_append_right _ h)
  have hc : Cond.codeWith y bytes maxL ret hh ∈ ws := by rw [hw]; exact List.mem_cons_self
  refine ⟨⟨hrc, hrs, hR.1, hR.2, pay_in ht hG, hc⟩, ht _ (hG _ hc).1, ok _ (by simp [va_wsS]), ⟨hd.1, hd.2.1⟩, fun sig h => ?_, ok _ (by simp [va_wsS]), ok _ (by simp [va_wsS])⟩
  have h2 := hd.2.2
  rw [h] at h2
  exact (Option.some.inj h2).symm
theorem vx_callSW (X : Stand p l e R s m args below meth c T locs cells slots) (hexec : p.tables.exec = Jvm.exec) {own : String} {index : Nat} {y : MethodName} {bytes : ByteArray} {maxL : Nat} {ret : Option FieldType} {hh : List (Nat × Nat × Nat × Nat)}
    (hown : s.vm.findClass own = some m.cls) (hlink : (Cond.methodLink own index y).before args s = true) (hstat : (Cond.static y).before args s = true) (hinit : (Cond.initialized y.cls).before args s = true)
    (hcode : (Cond.codeWith y bytes maxL ret hh).before args s = true) (hy : y.cls ≠ "java/lang/invoke/MethodHandle" ∧ y.cls ≠ "java/lang/invoke/VarHandle")
    {W9 : Nat} {Pre : Pt → Array Value → Prop} {Post : Pt → Array Value → Option Value → Pt → Prop} (hK : Back l R p e below s args y 3 W9 Pre Post)
    {g : JFrame} (hg : g.method = m) (hsize : g.locals.size = c.maxLocals) {argsL rest : List Value} (hlen : ∀ sig, parseMethodDescriptor y.desc = some sig → argsL.length = sig.parameters.length)
    (hstack : g.stack = argsL.reverse ++ rest) (hW : 2 * g.monitorRoom + (rest.map fun v => v.category).sum ≤ W9) (hdg : decode c.code g.pc = .ok (.invokestatic index, 3))
    (hpre : ∀ vm₁, s.WarmedH vm₁ → Pre ⟨T.setVm vm₁, locs, cells, slots⟩ argsL.toArray) :
    ∃ (v : Option Value) (vm₁ : Vm) (B : Pt), s.WarmedH vm₁ ∧ Stand p l e R s m args below meth c B.U B.locs B.cells B.slots ∧ Post ⟨T.setVm vm₁, locs, cells, slots⟩ argsL.toArray v B ∧
      ∀ target, Steps p.tables e below (B.U.setTop { g with pc := g.pc + 3, stack := v.toList ++ rest }) target → Steps p.tables e below (T.setTop g) target := by
  obtain ⟨mk, methM, cM, hnamed, hmethM, -, -, -, -, -, -, hsigM⟩ := Cond.codeWith_spec hcode
  have hstatic : methM.isStatic = true := Cond.static_spec hnamed hmethM hstat
  obtain ⟨kP, hkP, -⟩ := className_of_methodNamed hnamed
  have hinitP : kP.init = .initialized := Cond.initialized_spec (findClass_of_methodNamed hnamed) hkP hinit
  obtain ⟨vm₁, X₁, hstep₁⟩ := X.invokestatic hexec hown hlink hnamed hmethM hstatic hkP hinitP hy (g := g) hg (argsL := argsL) (rest := rest) (hlen _ hsigM) hstack hdg
  obtain ⟨v, B, X', hpost, hsteps⟩ := hK m meth c ⟨T.setVm vm₁, locs, cells, slots⟩ { g with stack := rest } (.invokestatic index) mk argsL.toArray X₁ hg hsize hdg hW (X₁.named hnamed) (hpre vm₁ X₁.warmed)
  exact ⟨v, vm₁, B, X₁.warmed, X', hpost, fun target h => hstep₁ _ fun acts => by rw [doInvoke_state]; exact hsteps.trans h⟩
theorem vx_runSW {y : MethodName} {bytes cc : ByteArray} {maxL nL mc ms n index : Nat} {ret : Option FieldType} {hh : List (Nat × Nat × Nat × Nat)} {ws : List Cond} {rm : Room} {Pc : Array Value → State → Prop} {Qc : Array Value → State → Outcome → State → Prop} {free : Addr → Prop} {Ts : List Cond} {own : String} {As rest : List Value} {g : JFrame}
    (S : CallFix p m c cc nL s args Ts own) (hM : Met l y ws rm Pc Qc mc ms free) (cw : vx_CSW R s args own index y bytes maxL ret hh ws rm mc ms n) (hp : PreS s H Pc As)
    (hg : g.method = m) (hn : As.length = n) (hsize : g.locals.size = nL) (hstack : g.stack = As.reverse ++ rest) (hW : 2 * g.monitorRoom + (rest.map fun v => v.category).sum ≤ 8) (hdg : decode cc g.pc = .ok (.invokestatic index, 3)) (hf : cells + mc ≤ R.cells ∧ slots + ms ≤ R.slots) :
    va_Run p l e R s m args below meth c H locs cells slots mc ms g rest (Qc As.toArray) (free) := by
  obtain ⟨⟨hrc, hrs, hfr, hlo, hws, hcw⟩, hcode, hini, hy, hlen, hl, hstt⟩ := cw
  have hK : Back l R p e below s args y 3 8 (PreOf R mc ms Pc) (PostOf Qc mc ms free) := va_backW (hh := hh) (bytes := bytes) (maxL := maxL) (ret := ret) hM hp.1 hrc hrs hfr hlo hws hcw (fun a' U hW => word_at hW (Or.inl (by first | rfl | simp [Cond.onTables, Cond.keeps, Cond.steady])) hini)
  obtain ⟨hx, hb, hml, ho, -⟩ := S
  intro T hT X
  obtain ⟨v, vm₁, ⟨U', l2, c2, s2⟩, hW₁, X', ⟨g', mk, t, L, e1, e2, hq, h1, hL, h2, h3⟩, st⟩ := vx_callSW X hx (hh := hh) (bytes := bytes) (maxL := maxL) (ret := ret) ho hl hstt hini hcode hy hK hg (hsize.trans hml.symm) (argsL := As) (rest := rest) (fun sig h => hn.trans (hlen sig h)) hstack hW (by rw [hb]; exact hdg)
    (fun vm₁ hW₁ => ⟨hf.1, hf.2, hp.2 (T.setVm vm₁) hT hW₁⟩)
  dsimp only [Pt.U, Pt.locs, Pt.cells, Pt.slots] at X' e1 e2 h1 h2 h3 st
  subst h1; subst h2; subst h3
  exact ⟨v, (T.setVm vm₁).calling g' mk As.toArray, t, U', L, hT, X', hL, e1, e2, hq, st⟩
/-- not caught here, past rows that name other classes: it goes on to the caller -/
theorem vx_outP {p : Program} {l : Launch} {e : Env} {R : Room} {s : State} {m : MethodId} {args : Array Value} {below : List Frame} {meth : Method} {c : Code} {H : Heap} {locs : List Loc} {cells slots : Nat} {free : Addr → Prop} {ls : Array Slot} {rest : List Value} {Qc : Array Value → State → Outcome → State → Prop} {XC : String → State → State → Prop}
    {pc : Nat} {own E : String} {ce : Cell} {q : Addr} {mc ms : Nat} (hown : s.vm.findClass own = some m.cls) (hlocks : meth.locks = false)
    (hpass : ∀ z ∈ c.exceptionTable.toList, covers z pc = false ∨ (z.catchType ≠ 0 ∧ ∃ nm : String, (Cond.classLink own z.catchType nm).before args s = true ∧ va_Nc E nm s)) (hcell : H[q]? = some ce) (hv : ce.vm = .none) (hcl : s.vm.findClass E = some ce.cls)
    (hx : ∀ t : State, t.heap = H → s.vm.Alike t.vm → XC E s t) (hf : ∀ z ∈ locs, free z.base) (hc : cells ≤ mc) (hs : slots ≤ ms) :
    vx_W p l e R s m args below meth c H locs cells slots (vx_MQ below Qc XC args s mc ms free) (F0 m pc ls rest) q := by
  intro T hT X
  have hpl : e.platform.magicAccessors = ({} : Platform).magicAccessors := by rw [X.admits.platform]
  obtain ⟨vm', hW', X', st⟩ := X.outThrough hlocks q (g := F0 m pc ls rest) rfl rfl rfl (cell := ce) (by rw [hT]; exact hcell) (by rw [hv]; rfl)
    (by obtain ⟨k9, h9, -⟩ := Vm.findClass_spec hcl; exact ⟨k9, h9⟩) (fun z hz => by
      rcases hpass z hz with h | ⟨hz0, nm, hl1, hn1⟩
      · exact Or.inl h
      · obtain ⟨c6, hc6, hcl6⟩ := Cond.classLink_spec hown hl1 e.platform hpl
        obtain ⟨a8, b8, h1, h2, h3⟩ := hn1
        cases Option.some.inj (h1.symm.trans hcl)
        cases Option.some.inj (h2.symm.trans hc6)
        exact Or.inr ⟨hz0, _, hcl6, h3⟩)
  obtain ⟨g₀, hfr⟩ := X'.frames_eq
  have hcell9 : ((T.setVm vm').setFrames (.throwing q :: below)).heap[q]? = some ce := by
    show T.heap[q]? = some ce
    rw [hT]; exact hcell
  have hend : Ended ((T.setVm vm').setFrames (.throwing q :: below)) below (.threw q) := State.frames_setFrames _ (State.cur_lt_of_frames hfr)
  refine ⟨(T.setVm vm').setFrames (.throwing q :: below), ?_, .threw q, X'.here.running, hend, Or.inr ⟨q, rfl, E, ce, locs, hx _ hT (X'.ends _).1.alike, hcell9, hv, hcl, (X'.ends _).1, (X'.ends _).2.mono hc hs, hf⟩⟩
  rw [X.pushThrowing_eq]
  exact st
/-- a thing of a world lies in the heap -/
theorem vx_lt {D : va_G} {cl : List vw_C} {ws : va_W} {H1 : Heap} (h : va_P D cl ws H1) {k : Nat} {q : Nat × va_E} (hk : ws[k]? = some q) : q.1 < H1.size := (h k q hk).lt
end VXS
/-! ===== END ===== -/
/-! ===== BEGIN methods with a table of their own: called by a name, returning or throwing ===== -/
section VXH
/-! vx_backW, vx_callVX, vx_callSX, vx_callVW, vx_runVW, vx_runVX, vx_runSX, vx_ofWH follow the same proofs as their sisters above (Free/Laws.lean, Shelf42/LK1.lean); vx_outP calls Shelf42/NT130.lean (outThrough). -/
section
variable {l : Launch} {R : Room} {p : Program} {e : Env} {below : List Frame} {s : State} {sargs : Array Value} {y : MethodName} {len W9 : Nat}
theorem vx_backW {ws : List Cond} {rm : Room} {Pc : Array Value → State → Prop} {Qc : Array Value → State → Outcome → State → Prop} {XC : String → State → State → Prop} {mc ms : Nat} {free : Addr → Prop} {bytes : ByteArray} {maxL : Nat} {ret : Option FieldType} {hh : List (Nat × Nat × Nat × Nat)}
    (hM : vx_Met l y ws rm Pc Qc XC mc ms free) (hblind : FrameBlind Pc) (hrc : rm.cells = mc) (hrs : rm.slots = ms)
    (hframes : rm.frames + 1 ≤ R.frames) (hlocals : W9 + (maxL + 11) + rm.locals ≤ R.locals)
    (hws : ∀ w ∈ ws, ∀ a' U, s.WarmedH U.vm → w.before a' U = true) (hcode : Cond.codeWith y bytes maxL ret hh ∈ ws) (hinit : ∀ a' U, s.WarmedH U.vm → (Cond.initialized y.cls).before a' U = true) :
    vx_Back l R p e below s sargs y len W9 (PreOf R mc ms Pc) (PostOf Qc mc ms free) (vx_Post XC mc ms free) := by
  intro m meth c A g ig mk a X hg hsize hdg hW hn hp
  have h1 : (headSpec ws rm).pre.before a A.U = true := atoms_intro fun w hw => hws w hw _ _ X.warmed
  have h2 : (Cond.codeWith y bytes maxL ret hh).before a A.U = true := hws _ hcode _ _ X.warmed
  have h3 : (Cond.initialized y.cls).before a A.U = true := hinit _ _ X.warmed
  have h4 : A.cells + (headSpec ws rm).room.cells ≤ R.cells := by rw [show (headSpec ws rm).room.cells = mc from hrc]; exact hp.1
  have h5 : A.slots + (headSpec ws rm).room.slots ≤ R.slots := by rw [show (headSpec ws rm).room.slots = ms from hrs]; exact hp.2.1
  have hPc : Pc a (A.U.calling g mk a) := hblind _ _ _ _ hp.2.2
  obtain ⟨U, Ls, c0, s0⟩ := A
  dsimp only [Pt.U, Pt.locs, Pt.cells, Pt.slots] at h1 h2 h3 h4 h5 X hn hPc ⊢
  obtain ⟨m9, methY, cY, hn9, hmY, hcY, -, hlY, -⟩ := Cond.codeWith_spec h2
  cases Option.some.inj (hn9.symm.trans hn)
  obtain ⟨kY, hkY, -⟩ := className_of_methodNamed hn
  have hinitY : kY.init = .initialized := Cond.initialized_spec (findClass_of_methodNamed hn) hkY h3
  have h : At U g.method c below := by rw [hg]; exact X.here
  have hlocals9 : W9 + (maxL + 11) + (headSpec ws rm).room.locals ≤ R.locals := hlocals
  have happ : (headSpec ws rm).appliesLoose y e.platform (U.calling g mk a) = true :=
    Spec.appliesLoose_calling (g := g) h hdg hn hkY hinitY
      (X.room_calling (g := g) (R' := (headSpec ws rm).room) hsize hmY hcY hframes (by rw [hlY]; omega) h4 h5) h1
  obtain ⟨mid, hmid⟩ := h.above
  have hfr : (U.setTop g).frames = (.java g :: mid) ++ below := by rw [State.frames_setTop' g h.top, hmid]; rfl
  obtain ⟨o, s₂, hsteps, -, hend, hq⟩ := Steps.callFree hM p X.admits X.cas X.clock (acts := []) hfr happ hPc trivial
  have hq' : vx_Q Qc XC mc ms free a (U.calling g mk a) o s₂ := hq
  rw [State.frames_setTop' g h.top] at hend
  obtain ⟨g₀, hg0⟩ := Option.isSome_iff_exists.mp h.top
  obtain ⟨r, hr⟩ := State.topJava?_eq_some.mp hg0
  have hr' : (({ U with heap := s₂.heap, slotsUsed := s₂.slotsUsed } : State).setVm s₂.vm).frames = .java g₀ :: r := hr
  rcases hq' with ⟨hqc, L, hfe, hL⟩ | ⟨q, rfl, E, ce, L, hx, hce, hcv, hcl, hW₂, hsm, hL⟩
  · obtain ⟨⟨v, rfl⟩, hW₂, e2, q2, q3, q4, q5, q6⟩ := id hfe
    have e3 : s₂ = ({ (U.calling g mk a).setFrames s₂.frames with heap := s₂.heap, slotsUsed := s₂.slotsUsed } : State).setVm s₂.vm := by
      have : s₂ = ({ s₂ with vm := (U.calling g mk a).vm } : State).setVm s₂.vm := rfl
      rw [e2] at this
      exact this
    obtain ⟨c₂, i₂, len₂, hc₂, hd₂, hf₂⟩ := hend
    have hW' : U.WarmedH s₂.vm := hW₂
    have hcc : c₂ = c := by
      have h1 : s₂.code? g.method = U.code? g.method := by
        rw [State.code?_eq, State.code?_eq, hW'.alike.method?]
      exact Option.some.inj (hc₂.symm.trans (h1.trans h.code))
    subst hcc
    have hlen : len₂ = len := by rw [hdg] at hd₂; cases hd₂; rfl
    subst hlen
    have hs₂ : s₂ = (({ U with heap := s₂.heap, slotsUsed := s₂.slotsUsed } : State).setVm s₂.vm).setTop { g with pc := g.pc + len₂, stack := v.toList ++ g.stack } := by
      refine e3.trans ?_
      rw [hf₂, State.calling_eq h.top, State.setFrames_setFrames, State.setTop_of_frames _ hr', hr]
      rfl
    have hsame : U.sameButNew ({ U with heap := s₂.heap, slotsUsed := s₂.slotsUsed } : State) L mc ms := by
      refine ⟨?_, q2, q3, q4, q5, q6⟩
      obtain ⟨t, ht, -⟩ := State.frames_cons hr
      show ({ U with heap := s₂.heap, slotsUsed := s₂.slotsUsed } : State) = { U.setFrames U.frames with heap := s₂.heap, slotsUsed := s₂.slotsUsed }
      rw [State.setFrames_self ht]
    subst hg
    refine Or.inl ⟨v, ⟨(({ U with heap := s₂.heap, slotsUsed := s₂.slotsUsed } : State).setVm s₂.vm), Ls ++ L, c0 + mc, s0 + ms⟩,
      ⟨X.admits, X.cas, X.clock, X.frames, X.room, X.hears, X.method, X.code, (X.here.setHeapUsed s₂.heap s₂.slotsUsed).setVm hW'.alike, X.tail, State.WarmedH.trans X.warmed hW', X.limits, X.bytes, X.same.trans (hsame.setVm s.vm)⟩,
      ⟨g, mk, s₂, L, rfl, rfl, hqc, rfl, hL, rfl, rfl⟩, ?_⟩
    show Steps p.tables e below _ ((({ U with heap := s₂.heap, slotsUsed := s₂.slotsUsed } : State).setVm s₂.vm).setTop { g with pc := g.pc + len₂, stack := v.toList ++ g.stack })
    rw [← hs₂]
    exact hsteps
  · obtain ⟨e2, q2, q3, q4, q5, q6⟩ := id hsm
    have e3 : s₂ = ({ (U.calling g mk a).setFrames s₂.frames with heap := s₂.heap, slotsUsed := s₂.slotsUsed } : State).setVm s₂.vm := by
      have : s₂ = ({ s₂ with vm := (U.calling g mk a).vm } : State).setVm s₂.vm := rfl
      rw [e2] at this
      exact this
    have hf₂ : s₂.frames = .throwing q :: .java g :: U.frames.tail := hend
    have hW' : U.WarmedH s₂.vm := hW₂
    have hs₂ : s₂ = ((({ U with heap := s₂.heap, slotsUsed := s₂.slotsUsed } : State).setVm s₂.vm).setTop g).pushFrame (.throwing q) := by
      refine e3.trans ?_
      rw [hf₂, State.calling_eq h.top, State.setFrames_setFrames, State.pushFrame, State.frames_setTop _ hr', State.setTop_of_frames _ hr', State.setFrames_setFrames, hr]
      rfl
    have hsame : U.sameButNew ({ U with heap := s₂.heap, slotsUsed := s₂.slotsUsed } : State) L mc ms := by
      refine ⟨?_, q2, q3, q4, q5, q6⟩
      obtain ⟨t, ht, -⟩ := State.frames_cons hr
      show ({ U with heap := s₂.heap, slotsUsed := s₂.slotsUsed } : State) = { U.setFrames U.frames with heap := s₂.heap, slotsUsed := s₂.slotsUsed }
      rw [State.setFrames_self ht]
    subst hg
    refine Or.inr ⟨q, ⟨(({ U with heap := s₂.heap, slotsUsed := s₂.slotsUsed } : State).setVm s₂.vm), Ls ++ L, c0 + mc, s0 + ms⟩,
      ⟨X.admits, X.cas, X.clock, X.frames, X.room, X.hears, X.method, X.code, (X.here.setHeapUsed s₂.heap s₂.slotsUsed).setVm hW'.alike, X.tail, State.WarmedH.trans X.warmed hW', X.limits, X.bytes, X.same.trans (hsame.setVm s.vm)⟩,
      ⟨g, mk, s₂, L, E, ce, rfl, rfl, hx, hce, hcv, hcl, rfl, hL, rfl, rfl⟩, ?_⟩
    show Steps p.tables e below _ (((({ U with heap := s₂.heap, slotsUsed := s₂.slotsUsed } : State).setVm s₂.vm).setTop g).pushFrame (.throwing q))
    rw [← hs₂]
    exact hsteps
end
variable {p : Program} {l : Launch} {e : Env} {R : Room} {s : State} {m : MethodId} {args : Array Value} {below : List Frame} {meth : Method} {c : Code} {T : State} {H : Heap} {locs : List Loc} {cells slots : Nat}
theorem vx_callVX (X : Stand p l e R s m args below meth c T locs cells slots) (hexec : p.tables.exec = Jvm.exec) {own C : String} {index : Nat} {y : MethodName} {bytes : ByteArray} {maxL : Nat} {ret : Option FieldType} {hh : List (Nat × Nat × Nat × Nat)}
    (hown : s.vm.findClass own = some m.cls) (hlink : (Cond.methodLink own index y).before args s = true) (hinst : (Cond.instanceMethod y).before args s = true) (hsel : (Cond.selects C y y).before args s = true)
    (hcode : (Cond.codeWith y bytes maxL ret hh).before args s = true) (hy : y.cls ≠ "java/lang/invoke/MethodHandle" ∧ y.cls ≠ "java/lang/invoke/VarHandle")
    {W9 : Nat} {Pre : Pt → Array Value → Prop} {Post : Pt → Array Value → Option Value → Pt → Prop} {PostX : Pt → Array Value → Addr → Pt → Prop} (hK : vx_Back l R p e below s args y 3 W9 Pre Post PostX)
    {b : Addr} {cellB : Cell} (hcell : T.heap[b]? = some cellB) (hobj : cellB.vm.isStatics = false) (hcls : s.vm.findClass C = some cellB.cls)
    {g : JFrame} (hg : g.method = m) (hsize : g.locals.size = c.maxLocals) {argsL rest : List Value} (hlen : ∀ sig, parseMethodDescriptor y.desc = some sig → argsL.length = sig.parameters.length)
    (hstack : g.stack = argsL.reverse ++ .ref b :: rest) (hW : 2 * g.monitorRoom + (rest.map fun v => v.category).sum ≤ W9) (hdg : decode c.code g.pc = .ok (.invokevirtual index, 3))
    (hpre : ∀ vm₁, s.WarmedH vm₁ → Pre ⟨T.setVm vm₁, locs, cells, slots⟩ (Value.ref b :: argsL).toArray) :
    (∃ (v : Option Value) (vm₁ : Vm) (B : Pt), s.WarmedH vm₁ ∧ Stand p l e R s m args below meth c B.U B.locs B.cells B.slots ∧ Post ⟨T.setVm vm₁, locs, cells, slots⟩ (Value.ref b :: argsL).toArray v B ∧
      ∀ target, Steps p.tables e below (B.U.setTop { g with pc := g.pc + 3, stack := v.toList ++ rest }) target → Steps p.tables e below (T.setTop g) target) ∨
    (∃ (q : Addr) (vm₁ : Vm) (B : Pt), s.WarmedH vm₁ ∧ Stand p l e R s m args below meth c B.U B.locs B.cells B.slots ∧ PostX ⟨T.setVm vm₁, locs, cells, slots⟩ (Value.ref b :: argsL).toArray q B ∧
      Steps p.tables e below (T.setTop g) ((B.U.setTop { g with stack := rest }).pushFrame (.throwing q))) := by
  obtain ⟨mk, methM, hnamed, hmethM, hstM, habM⟩ := Cond.instanceMethod_spec hinst
  obtain ⟨m8, methM', cM, hn8, hmethM', -, -, -, -, -, -, hsigM⟩ := Cond.codeWith_spec hcode
  cases Option.some.inj (hn8.symm.trans hnamed)
  cases hmethM.symm.trans hmethM'
  obtain ⟨c2, r2, m2, q1, q2, q3, q4, kP, hkP, hkPi⟩ := Cond.selects_spec hsel
  cases hcls.symm.trans q1
  cases (State.methodFound?_of_named hnamed hy).symm.trans q2
  cases hnamed.symm.trans q3
  have hselP : selectMethod e.platform s.vm cellB.cls mk = .method mk := by rw [Launch.admits_selectMethod X.admits]; exact q4
  obtain ⟨vm₁, X₁, hstep₁⟩ := X.invokevirtual hexec hown hlink hnamed hmethM hstM hkP hkPi hy (a := b) (cell := cellB) hcell
    (fun z h => by rw [h] at hobj; cases hobj) hselP hmethM habM hkP hkPi (g := g) hg (argsL := argsL) (rest := rest) (hlen _ hsigM) hstack hdg
  rcases hK m meth c ⟨T.setVm vm₁, locs, cells, slots⟩ { g with stack := rest } (.invokevirtual index) mk (Value.ref b :: argsL).toArray X₁ hg hsize hdg hW (X₁.named hnamed) (hpre vm₁ X₁.warmed) with ⟨v, B, X', hpost, hsteps⟩ | ⟨q, B, X', hpost, hsteps⟩
  · exact Or.inl ⟨v, vm₁, B, X₁.warmed, X', hpost, fun target h => hstep₁ _ fun acts => by rw [doInvoke_state]; exact hsteps.trans h⟩
  · exact Or.inr ⟨q, vm₁, B, X₁.warmed, X', hpost, hstep₁ _ fun acts => by rw [doInvoke_state]; exact hsteps⟩
theorem vx_callSX (X : Stand p l e R s m args below meth c T locs cells slots) (hexec : p.tables.exec = Jvm.exec) {own : String} {index : Nat} {y : MethodName} {bytes : ByteArray} {maxL : Nat} {ret : Option FieldType} {hh : List (Nat × Nat × Nat × Nat)}
    (hown : s.vm.findClass own = some m.cls) (hlink : (Cond.methodLink own index y).before args s = true) (hstat : (Cond.static y).before args s = true) (hinit : (Cond.initialized y.cls).before args s = true)
    (hcode : (Cond.codeWith y bytes maxL ret hh).before args s = true) (hy : y.cls ≠ "java/lang/invoke/MethodHandle" ∧ y.cls ≠ "java/lang/invoke/VarHandle")
    {W9 : Nat} {Pre : Pt → Array Value → Prop} {Post : Pt → Array Value → Option Value → Pt → Prop} {PostX : Pt → Array Value → Addr → Pt → Prop} (hK : vx_Back l R p e below s args y 3 W9 Pre Post PostX)
    {g : JFrame} (hg : g.method = m) (hsize : g.locals.size = c.maxLocals) {argsL rest : List Value} (hlen : ∀ sig, parseMethodDescriptor y.desc = some sig → argsL.length = sig.parameters.length)
    (hstack : g.stack = argsL.reverse ++ rest) (hW : 2 * g.monitorRoom + (rest.map fun v => v.category).sum ≤ W9) (hdg : decode c.code g.pc = .ok (.invokestatic index, 3))
    (hpre : ∀ vm₁, s.WarmedH vm₁ → Pre ⟨T.setVm vm₁, locs, cells, slots⟩ argsL.toArray) :
    (∃ (v : Option Value) (vm₁ : Vm) (B : Pt), s.WarmedH vm₁ ∧ Stand p l e R s m args below meth c B.U B.locs B.cells B.slots ∧ Post ⟨T.setVm vm₁, locs, cells, slots⟩ argsL.toArray v B ∧
      ∀ target, Steps p.tables e below (B.U.setTop { g with pc := g.pc + 3, stack := v.toList ++ rest }) target → Steps p.tables e below (T.setTop g) target) ∨
    (∃ (q : Addr) (vm₁ : Vm) (B : Pt), s.WarmedH vm₁ ∧ Stand p l e R s m args below meth c B.U B.locs B.cells B.slots ∧ PostX ⟨T.setVm vm₁, locs, cells, slots⟩ argsL.toArray q B ∧
      Steps p.tables e below (T.setTop g) ((B.U.setTop { g with stack := rest }).pushFrame (.throwing q))) := by
  obtain ⟨mk, methM, cM, hnamed, hmethM, -, -, -, -, -, -, hsigM⟩ := Cond.codeWith_spec hcode
  have hstatic : methM.isStatic = true := Cond.static_spec hnamed hmethM hstat
  obtain ⟨kP, hkP, -⟩ := className_of_methodNamed hnamed
  have hinitP : kP.init = .initialized := Cond.initialized_spec (findClass_of_methodNamed hnamed) hkP hinit
  obtain ⟨vm₁, X₁, hstep₁⟩ := X.invokestatic hexec hown hlink hnamed hmethM hstatic hkP hinitP hy (g := g) hg (argsL := argsL) (rest := rest) (hlen _ hsigM) hstack hdg
  rcases hK m meth c ⟨T.setVm vm₁, locs, cells, slots⟩ { g with stack := rest } (.invokestatic index) mk argsL.toArray X₁ hg hsize hdg hW (X₁.named hnamed) (hpre vm₁ X₁.warmed) with ⟨v, B, X', hpost, hsteps⟩ | ⟨q, B, X', hpost, hsteps⟩
  · exact Or.inl ⟨v, vm₁, B, X₁.warmed, X', hpost, fun target h => hstep₁ _ fun acts => by rw [doInvoke_state]; exact hsteps.trans h⟩
  · exact Or.inr ⟨q, vm₁, B, X₁.warmed, X', hpost, hstep₁ _ fun acts => by rw [doInvoke_state]; exact hsteps⟩
theorem vx_callVW (X : Stand p l e R s m args below meth c T locs cells slots) (hexec : p.tables.exec = Jvm.exec) {own C : String} {index : Nat} {y : MethodName} {bytes : ByteArray} {maxL : Nat} {ret : Option FieldType} {hh : List (Nat × Nat × Nat × Nat)}
    (hown : s.vm.findClass own = some m.cls) (hlink : (Cond.methodLink own index y).before args s = true) (hinst : (Cond.instanceMethod y).before args s = true) (hsel : (Cond.selects C y y).before args s = true)
    (hcode : (Cond.codeWith y bytes maxL ret hh).before args s = true) (hy : y.cls ≠ "java/lang/invoke/MethodHandle" ∧ y.cls ≠ "java/lang/invoke/VarHandle")
    {W9 : Nat} {Pre : Pt → Array Value → Prop} {Post : Pt → Array Value → Option Value → Pt → Prop} (hK : Back l R p e below s args y 3 W9 Pre Post)
    {b : Addr} {cellB : Cell} (hcell : T.heap[b]? = some cellB) (hobj : cellB.vm.isStatics = false) (hcls : s.vm.findClass C = some cellB.cls)
    {g : JFrame} (hg : g.method = m) (hsize : g.locals.size = c.maxLocals) {argsL rest : List Value} (hlen : ∀ sig, parseMethodDescriptor y.desc = some sig → argsL.length = sig.parameters.length)
    (hstack : g.stack = argsL.reverse ++ .ref b :: rest) (hW : 2 * g.monitorRoom + (rest.map fun v => v.category).sum ≤ W9) (hdg : decode c.code g.pc = .ok (.invokevirtual index, 3))
    (hpre : ∀ vm₁, s.WarmedH vm₁ → Pre ⟨T.setVm vm₁, locs, cells, slots⟩ (Value.ref b :: argsL).toArray) :
    ∃ (v : Option Value) (vm₁ : Vm) (B : Pt), s.WarmedH vm₁ ∧ Stand p l e R s m args below meth c B.U B.locs B.cells B.slots ∧ Post ⟨T.setVm vm₁, locs, cells, slots⟩ (Value.ref b :: argsL).toArray v B ∧
      ∀ target, Steps p.tables e below (B.U.setTop { g with pc := g.pc + 3, stack := v.toList ++ rest }) target → Steps p.tables e below (T.setTop g) target := by
  obtain ⟨mk, methM, hnamed, hmethM, hstM, habM⟩ := Cond.instanceMethod_spec hinst
  obtain ⟨m8, methM', cM, hn8, hmethM', -, -, -, -, -, -, hsigM⟩ := Cond.codeWith_spec hcode
  cases Option.some.inj (hn8.symm.trans hnamed)
  cases hmethM.symm.trans hmethM'
  obtain ⟨c2, r2, m2, q1, q2, q3, q4, kP, hkP, hkPi⟩ := Cond.selects_spec hsel
  cases hcls.symm.trans q1
  cases (State.methodFound?_of_named hnamed hy).symm.trans q2
  cases hnamed.symm.trans q3
  have hselP : selectMethod e.platform s.vm cellB.cls mk = .method mk := by rw [Launch.admits_selectMethod X.admits]; exact q4
  obtain ⟨vm₁, X₁, hstep₁⟩ := X.invokevirtual hexec hown hlink hnamed hmethM hstM hkP hkPi hy (a := b) (cell := cellB) hcell
    (fun z h => by rw [h] at hobj; cases hobj) hselP hmethM habM hkP hkPi (g := g) hg (argsL := argsL) (rest := rest) (hlen _ hsigM) hstack hdg
  obtain ⟨v, B, X', hpost, hsteps⟩ := hK m meth c ⟨T.setVm vm₁, locs, cells, slots⟩ { g with stack := rest } (.invokevirtual index) mk (Value.ref b :: argsL).toArray X₁ hg hsize hdg hW (X₁.named hnamed) (hpre vm₁ X₁.warmed)
  exact ⟨v, vm₁, B, X₁.warmed, X', hpost, fun target h => hstep₁ _ fun acts => by rw [doInvoke_state]; exact hsteps.trans h⟩
abbrev vx_CVW (R : Room) (s : State) (args : Array Value) (own C : String) (index : Nat) (y : MethodName) (bytes : ByteArray) (maxL : Nat) (ret : Option FieldType) (hh : List (Nat × Nat × Nat × Nat)) (ws : List Cond) (rm : Room) (mc ms n : Nat) : Prop :=
  (rm.cells = mc ∧ rm.slots = ms ∧ rm.frames + 1 ≤ R.frames ∧ 8 + (maxL + 11) + rm.locals ≤ R.locals ∧ (∀ w ∈ ws, ∀ (a' : Array Value) (U : State), s.WarmedH U.vm → w.before a' U = true) ∧ Cond.codeWith y bytes maxL ret hh ∈ ws) ∧
  (Cond.codeWith y bytes maxL ret hh).before args s = true ∧ (Cond.initialized y.cls).before args s = true ∧ (y.cls ≠ "java/lang/invoke/MethodHandle" ∧ y.cls ≠ "java/lang/invoke/VarHandle") ∧
  (∀ sig, parseMethodDescriptor y.desc = some sig → n = sig.parameters.length) ∧ (Cond.methodLink own index y).before args s = true ∧ (Cond.instanceMethod y).before args s = true ∧ (Cond.selects C y y).before args s = true
theorem vx_cwVW {own C : String} {index maxL mc ms : Nat} {y : MethodName} {bytes : ByteArray} {ret : Option FieldType} {hh : List (Nat × Nat × Nat × Nat)} {Ts ws ws' : List Cond} {rm : Room} (n : Nat) (ht : ∀ w ∈ Ts, w.before args s = true) (hT : GoodIn Ts (wsV own index C y ws)) (hw : ws = Cond.codeWith y bytes maxL ret hh :: ws') (hrc : rm.cells = mc) (hrs : rm.slots = ms)
    (hd : y.cls = C ∧ y.cls ≠ "java/lang/invoke/MethodHandle" ∧ y.cls ≠ "java/lang/invoke/VarHandle" ∧ (parseMethodDescriptor y.desc).map (fun d => d.parameters.length) = some n) (hR : rm.frames + 1 ≤ R.frames ∧ 8 + (maxL + 11) + rm.locals ≤ R.locals) :
    vx_CVW R s args own C index y bytes maxL ret hh ws rm mc ms n := by
  obtain ⟨hC, hd⟩ := hd
  subst hC
  have ok : ∀ w ∈ wsV own index y.cls y ws, w.before args s = true := fun w h => ht w (hT w h).1
  have hG : GoodIn Ts ws := fun w h => hT w (by unfold wsV; exact List.mem_append_right _ h)
  have hc : Cond.codeWith y bytes maxL ret hh ∈ ws := by rw [hw]; exact List.mem_cons_self
  refine ⟨⟨hrc, hrs, hR.1, hR.2, pay_in ht hG, hc⟩, ht _ (hG _ hc).1, ok _ (by simp [wsV]), ⟨hd.1, hd.2.1⟩, fun sig h => ?_, ok _ (by simp [wsV]), ok _ (by simp [wsV]), ok _ (by simp [wsV])⟩
  have h2 := hd.2.2
  rw [h] at h2
  exact (Option.some.inj h2).symm
theorem vx_runVW {y : MethodName} {bytes cc : ByteArray} {maxL nL mc ms n index : Nat} {ret : Option FieldType} {hh : List (Nat × Nat × Nat × Nat)} {ws : List Cond} {rm : Room} {Pc : Array Value → State → Prop} {Qc : Array Value → State → Outcome → State → Prop} {free : Addr → Prop} {Ts : List Cond} {own C : String} {b : Addr} {As rest : List Value} {g : JFrame}
    (S : CallFix p m c cc nL s args Ts own) (hM : Met l y ws rm Pc Qc mc ms free) (cw : vx_CVW R s args own C index y bytes maxL ret hh ws rm mc ms n) (hp : PreV s H C b Pc As)
    (hg : g.method = m) (hn : As.length = n) (hsize : g.locals.size = nL) (hstack : g.stack = As.reverse ++ .ref b :: rest) (hW : 2 * g.monitorRoom + (rest.map fun v => v.category).sum ≤ 8) (hdg : decode cc g.pc = .ok (.invokevirtual index, 3)) (hf : cells + mc ≤ R.cells ∧ slots + ms ≤ R.slots) :
    va_Run p l e R s m args below meth c H locs cells slots mc ms g rest (Qc (Value.ref b :: As).toArray) free := by
  obtain ⟨⟨hrc, hrs, hfr, hlo, hws, hcw⟩, hcode, hini, hy, hlen, hl, hin, hse⟩ := cw
  have hK : Back l R p e below s args y 3 8 (PreOf R mc ms Pc) (PostOf Qc mc ms free) := va_backW (hh := hh) (bytes := bytes) (maxL := maxL) (ret := ret) hM hp.1 hrc hrs hfr hlo hws hcw (fun a' U hW => word_at hW (Or.inl (by first | rfl | simp [Cond.onTables, Cond.keeps, Cond.steady])) hini)
  obtain ⟨hx, hb, hml, ho, -⟩ := S
  obtain ⟨-, ⟨cellB, hcB, hoB, hclB⟩, hPc⟩ := hp
  intro T hT X
  obtain ⟨v, vm₁, ⟨U', l2, c2, s2⟩, hW₁, X', ⟨g', mk, t, L, e1, e2, hq, h1, hL, h2, h3⟩, st⟩ := vx_callVW X hx (C := C) (hh := hh) (bytes := bytes) (maxL := maxL) (ret := ret) ho hl hin hse hcode hy hK (by rw [hT]; exact hcB) hoB hclB hg (hsize.trans hml.symm) (argsL := As) (rest := rest) (fun sig h => hn.trans (hlen sig h)) hstack hW (by rw [hb]; exact hdg)
    (fun vm₁ hW₁ => ⟨hf.1, hf.2, hPc (T.setVm vm₁) hT hW₁⟩)
  dsimp only [Pt.U, Pt.locs, Pt.cells, Pt.slots] at X' e1 e2 h1 h2 h3 st
  subst h1; subst h2; subst h3
  exact ⟨v, (T.setVm vm₁).calling g' mk (Value.ref b :: As).toArray, t, U', L, hT, X', hL, e1, e2, hq, st⟩
section
variable {y : MethodName} {bytes cc : ByteArray} {maxL nL mc ms n index : Nat} {ret : Option FieldType} {ws : List Cond} {rm : Room} {Pc : Array Value → State → Prop} {Qc : Array Value → State → Outcome → State → Prop} {XC : String → State → State → Prop} {free : Addr → Prop} {Ts : List Cond} {own C : String} {b : Addr} {As rest : List Value} {g : JFrame}
theorem vx_runVX {hh : List (Nat × Nat × Nat × Nat)} (S : CallFix p m c cc nL s args Ts own) (hM : vx_Met l y ws rm Pc Qc XC mc ms free) (cw : vx_CVW R s args own C index y bytes maxL ret hh ws rm mc ms n) (hp : PreV s H C b Pc As)
    (hg : g.method = m) (hn : As.length = n) (hsize : g.locals.size = nL) (hstack : g.stack = As.reverse ++ .ref b :: rest) (hW : 2 * g.monitorRoom + (rest.map fun v => v.category).sum ≤ 8) (hdg : decode cc g.pc = .ok (.invokevirtual index, 3)) (hf : cells + mc ≤ R.cells ∧ slots + ms ≤ R.slots) :
    vx_Run p l e R s m args below meth c H locs cells slots mc ms g rest (Qc (Value.ref b :: As).toArray) XC free := by
  obtain ⟨⟨hrc, hrs, hfr, hlo, hws, hcw⟩, hcode, hini, hy, hlen, hl, hin, hse⟩ := cw
  have hK : vx_Back l R p e below s args y 3 8 (PreOf R mc ms Pc) (PostOf Qc mc ms free) (vx_Post XC mc ms free) := vx_backW (hh := hh) (bytes := bytes) (maxL := maxL) (ret := ret) hM hp.1 hrc hrs hfr hlo hws hcw (fun a' U hW => word_at hW (Or.inl (by first | rfl | simp [Cond.onTables, Cond.keeps, Cond.steady])) hini)
  obtain ⟨hx, hb, hml, ho, -⟩ := S
  obtain ⟨-, ⟨cellB, hcB, hoB, hclB⟩, hPc⟩ := hp
  intro T hT X
  rcases vx_callVX X hx (C := C) (hh := hh) (bytes := bytes) (maxL := maxL) (ret := ret) ho hl hin hse hcode hy hK (by rw [hT]; exact hcB) hoB hclB hg (hsize.trans hml.symm) (argsL := As) (rest := rest) (fun sig h => hn.trans (hlen sig h)) hstack hW (by rw [hb]; exact hdg)
    (fun vm₁ hW₁ => ⟨hf.1, hf.2, hPc (T.setVm vm₁) hT hW₁⟩) with ⟨v, vm₁, ⟨U', l2, c2, s2⟩, hW₁, X', ⟨g', mk, t, L, e1, e2, hq, h1, hL, h2, h3⟩, st⟩ | ⟨q, vm₁, ⟨U', l2, c2, s2⟩, hW₁, X', ⟨g', mk, t, L, E, ce, e1, e2, hq, hce, hcv, hcl, h1, hL, h2, h3⟩, st⟩
  · dsimp only [Pt.U, Pt.locs, Pt.cells, Pt.slots] at X' e1 e2 h1 h2 h3 st
    subst h1; subst h2; subst h3
    exact Or.inl ⟨v, (T.setVm vm₁).calling g' mk (Value.ref b :: As).toArray, t, U', L, hT, X', hL, e1, e2, hq, st⟩
  · dsimp only [Pt.U, Pt.locs, Pt.cells, Pt.slots] at X' e1 e2 h1 h2 h3 st hcl
    subst h1; subst h2; subst h3
    exact Or.inr ⟨q, (T.setVm vm₁).calling g' mk (Value.ref b :: As).toArray, t, U', L, E, ce, hT, X', hL, e1, e2, hq, hce, hcv, vx_cls hW₁ hcl, st⟩
theorem vx_runSX {hh : List (Nat × Nat × Nat × Nat)} (S : CallFix p m c cc nL s args Ts own) (hM : vx_Met l y ws rm Pc Qc XC mc ms free) (cw : vx_CSW R s args own index y bytes maxL ret hh ws rm mc ms n) (hp : PreS s H Pc As)
    (hg : g.method = m) (hn : As.length = n) (hsize : g.locals.size = nL) (hstack : g.stack = As.reverse ++ rest) (hW : 2 * g.monitorRoom + (rest.map fun v => v.category).sum ≤ 8) (hdg : decode cc g.pc = .ok (.invokestatic index, 3)) (hf : cells + mc ≤ R.cells ∧ slots + ms ≤ R.slots) :
    vx_Run p l e R s m args below meth c H locs cells slots mc ms g rest (Qc As.toArray) XC free := by
  obtain ⟨⟨hrc, hrs, hfr, hlo, hws, hcw⟩, hcode, hini, hy, hlen, hl, hstt⟩ := cw
  have hK : vx_Back l R p e below s args y 3 8 (PreOf R mc ms Pc) (PostOf Qc mc ms free) (vx_Post XC mc ms free) := vx_backW (hh := hh) (bytes := bytes) (maxL := maxL) (ret := ret) hM hp.1 hrc hrs hfr hlo hws hcw (fun a' U hW => word_at hW (Or.inl (by first | rfl | simp [Cond.onTables, Cond.keeps, Cond.steady])) hini)
  obtain ⟨hx, hb, hml, ho, -⟩ := S
  intro T hT X
  rcases vx_callSX X hx (hh := hh) (bytes := bytes) (maxL := maxL) (ret := ret) ho hl hstt hini hcode hy hK hg (hsize.trans hml.symm) (argsL := As) (rest := rest) (fun sig h => hn.trans (hlen sig h)) hstack hW (by rw [hb]; exact hdg)
    (fun vm₁ hW₁ => ⟨hf.1, hf.2, hp.2 (T.setVm vm₁) hT hW₁⟩) with ⟨v, vm₁, ⟨U', l2, c2, s2⟩, hW₁, X', ⟨g', mk, t, L, e1, e2, hq, h1, hL, h2, h3⟩, st⟩ | ⟨q, vm₁, ⟨U', l2, c2, s2⟩, hW₁, X', ⟨g', mk, t, L, E, ce, e1, e2, hq, hce, hcv, hcl, h1, hL, h2, h3⟩, st⟩
  · dsimp only [Pt.U, Pt.locs, Pt.cells, Pt.slots] at X' e1 e2 h1 h2 h3 st
    subst h1; subst h2; subst h3
    exact Or.inl ⟨v, (T.setVm vm₁).calling g' mk As.toArray, t, U', L, hT, X', hL, e1, e2, hq, st⟩
  · dsimp only [Pt.U, Pt.locs, Pt.cells, Pt.slots] at X' e1 e2 h1 h2 h3 st hcl
    subst h1; subst h2; subst h3
    exact Or.inr ⟨q, (T.setVm vm₁).calling g' mk As.toArray, t, U', L, E, ce, hT, X', hL, e1, e2, hq, hce, hcv, vx_cls hW₁ hcl, st⟩
end
end VXH
theorem vx_ofWH {l : Launch} {y : MethodName} {ws ws' : List Cond} {rm : Room} {Pc : Array Value → State → Prop} {Qc : Array Value → State → Outcome → State → Prop} {XC : String → State → State → Prop} {mc ms : Nat} {free : Addr → Prop} {cc : ByteArray} {maxL : Nat} {ret : Option FieldType} {hh : List (Nat × Nat × Nat × Nat)}
    (hy : plainName y.cls = true) (hw : ws = Cond.codeWith y cc maxL ret hh :: ws')
    (body : ∀ p e s m args below meth c s₁, BodyLoose p l y (headSpec ws rm) cc maxL ret e s m args below meth c s₁ → c.maxLocals = maxL → Pc args s →
      W p l e (headSpec ws rm).room s m args below meth c s.heap [] 0 0 (vx_MQ below Qc XC args s mc ms free) (entryFrame m args maxL)) : vx_Met l y ws rm Pc Qc XC mc ms free := by
  refine MetFree.of_bodyS (code := cc) (maxLocals := maxL) (ret := ret) hy ?_ ?_
  · intro args s m h hn
    obtain ⟨m9, meth, c, hn9, h1, h2, h3, h4, -, h5, h6, -⟩ := Cond.codeWith_spec (atoms_spec (ws := ws) h _ (by rw [hw]; exact List.mem_cons_self))
    cases hn.symm.trans hn9
    exact ⟨meth, c, h1, h2, h3, h4, h5, h6⟩
  · intro p e s m args below meth c s₁ B hml hP _
    have hh0 : s₁.heap = s.heap := by rw [B.state]; rfl
    obtain ⟨t, a1, o, b1, b2, b3⟩ := body p e s m args below meth c s₁ B hml hP s₁ hh0 (Stand.of_body B)
    exact ⟨t, o, a1, b1, b2, b3⟩
/-! ===== END ===== -/

def RX0 : String := "StreetOrgans$Pipes"
def TX0 : u_T := fun k => match k with
  | 0 => ("StreetOrgans$Pipes", "worn", "[I", true)
  | 1 => ("StreetOrgans$Pipes", "off", "[I", true)
  | 2 => ("StreetOrgans$Pipes", "cricket", "[Z", true)
  | _ => ("StreetOrgans$Pipes", "playedToday", "[Z", true)
def tyX0 : Nat → FieldType := fun k => match k with
  | 0 => .array .int
  | 1 => .array .int
  | 2 => .array .boolean
  | _ => .array .boolean
abbrev wsX00 : List Cond := u_ws RX0 TX0 4
theorem nmX0 : ∀ a, a < 4 → ∀ b, b < 4 → a ≠ b → (TX0 a).2.1 ≠ (TX0 b).2.1 := by decide +kernel
theorem tyX0_ok : ∀ k, k < 4 → parseFieldDescriptor (TX0 k).2.2.1 = some (tyX0 k) := by decide +kernel
abbrev cX0_init : ByteArray := prog_2_method_1_code
def yX0_init : MethodName := ⟨RX0, "<init>", "()V"⟩
abbrev cX0_become : ByteArray := prog_2_method_2_code
def yX0_become : MethodName := ⟨RX0, "become", "(LStreetOrgans$Pipes;)V"⟩
abbrev cX0_harmOf : ByteArray := prog_2_method_3_code
def yX0_harmOf : MethodName := ⟨RX0, "harmOf", "(I)I"⟩
abbrev cX0_wear : ByteArray := prog_2_method_4_code
def yX0_wear : MethodName := ⟨RX0, "wear", "(II)V"⟩
abbrev cX0_shift : ByteArray := prog_2_method_5_code
def yX0_shift : MethodName := ⟨RX0, "shift", "(II)V"⟩
abbrev cX0_passNight : ByteArray := prog_2_method_6_code
def yX0_passNight : MethodName := ⟨RX0, "passNight", "(I)I"⟩
abbrev cX0_clearCrickets : ByteArray := prog_2_method_7_code
def yX0_clearCrickets : MethodName := ⟨RX0, "clearCrickets", "()V"⟩
abbrev cX0_cricketCount : ByteArray := prog_2_method_8_code
def yX0_cricketCount : MethodName := ⟨RX0, "cricketCount", "()I"⟩
abbrev cX0_wornInAll : ByteArray := prog_2_method_9_code
def yX0_wornInAll : MethodName := ⟨RX0, "wornInAll", "()I"⟩
abbrev cX0_offInAll : ByteArray := prog_2_method_10_code
def yX0_offInAll : MethodName := ⟨RX0, "offInAll", "()I"⟩
abbrev cX0_sumUp : ByteArray := prog_2_method_11_code
def yX0_sumUp : MethodName := ⟨RX0, "sumUp", "(I)I"⟩
abbrev cX0_tell : ByteArray := prog_2_method_12_code
def yX0_tell : MethodName := ⟨RX0, "tell", "(II)I"⟩
def RX1 : String := "StreetOrgans$Street"
def TX1 : u_T := fun k => match k with
  | 0 => ("StreetOrgans$Street", "heard", "[I", true)
  | 1 => ("StreetOrgans$Street", "listeners", "I", false)
  | 2 => ("StreetOrgans$Street", "permits", "I", false)
  | _ => ("StreetOrgans$Street", "paid", "I", false)
def tyX1 : Nat → FieldType := fun k => match k with
  | 0 => .array .int
  | 1 => .int
  | 2 => .int
  | _ => .int
abbrev wsX10 : List Cond := u_ws RX1 TX1 4
theorem nmX1 : ∀ a, a < 4 → ∀ b, b < 4 → a ≠ b → (TX1 a).2.1 ≠ (TX1 b).2.1 := by decide +kernel
theorem tyX1_ok : ∀ k, k < 4 → parseFieldDescriptor (TX1 k).2.2.1 = some (tyX1 k) := by decide +kernel
abbrev cX1_init : ByteArray := prog_3_method_1_code
def yX1_init : MethodName := ⟨RX1, "<init>", "()V"⟩
abbrev cX1_isPermittedOn : ByteArray := prog_3_method_2_code
def yX1_isPermittedOn : MethodName := ⟨RX1, "isPermittedOn", "(I)Z"⟩
abbrev cX1_payFor : ByteArray := prog_3_method_3_code
def yX1_payFor : MethodName := ⟨RX1, "payFor", "(II)I"⟩
abbrev cX1_forgetDay : ByteArray := prog_3_method_4_code
def yX1_forgetDay : MethodName := ⟨RX1, "forgetDay", "()V"⟩
abbrev cX1_heardInAll : ByteArray := prog_3_method_5_code
def yX1_heardInAll : MethodName := ⟨RX1, "heardInAll", "()I"⟩
abbrev cX1_tell : ByteArray := prog_3_method_6_code
def yX1_tell : MethodName := ⟨RX1, "tell", "(II)I"⟩
def RX2 : String := "StreetOrgans$Tune"
def TX2 : u_T := fun k => match k with
  | 0 => ("StreetOrgans$Tune", "notes", "[I", true)
  | 1 => ("StreetOrgans$Tune", "times", "[I", true)
  | _ => ("StreetOrgans$Tune", "length", "I", false)
def tyX2 : Nat → FieldType := fun k => match k with
  | 0 => .array .int
  | 1 => .array .int
  | _ => .int
abbrev wsX20 : List Cond := u_ws RX2 TX2 3
theorem nmX2 : ∀ a, a < 3 → ∀ b, b < 3 → a ≠ b → (TX2 a).2.1 ≠ (TX2 b).2.1 := by decide +kernel
theorem tyX2_ok : ∀ k, k < 3 → parseFieldDescriptor (TX2 k).2.2.1 = some (tyX2 k) := by decide +kernel
abbrev cX2_init : ByteArray := prog_4_method_1_code
def yX2_init : MethodName := ⟨RX2, "<init>", "()V"⟩
abbrev cX2_append : ByteArray := prog_4_method_2_code
def yX2_append : MethodName := ⟨RX2, "append", "(I)I"⟩
abbrev cX2_soundOf : ByteArray := prog_4_method_3_code
def yX2_soundOf : MethodName := ⟨RX2, "soundOf", "(LStreetOrgans$Pipes;)I"⟩
abbrev cX2_soundSparing : ByteArray := prog_4_method_4_code
def yX2_soundSparing : MethodName := ⟨RX2, "soundSparing", "(LStreetOrgans$Pipes;I)I"⟩
abbrev cX2_wearDown : ByteArray := prog_4_method_5_code
def yX2_wearDown : MethodName := ⟨RX2, "wearDown", "(LStreetOrgans$Pipes;)V"⟩
def RX3 : String := "StreetOrgans"
def TX3 : u_T := fun k => match k with
  | 0 => ("StreetOrgans", "pipes", "LStreetOrgans$Pipes;", true)
  | 1 => ("StreetOrgans", "trial", "LStreetOrgans$Pipes;", true)
  | 2 => ("StreetOrgans", "tunes", "[LStreetOrgans$Tune;", true)
  | 3 => ("StreetOrgans", "streets", "[LStreetOrgans$Street;", true)
  | 4 => ("StreetOrgans", "damp", "[I", true)
  | 5 => ("StreetOrgans", "tuneCount", "I", false)
  | 6 => ("StreetOrgans", "streetCount", "I", false)
  | 7 => ("StreetOrgans", "day", "I", false)
  | 8 => ("StreetOrgans", "coins", "I", false)
  | _ => ("StreetOrgans", "fines", "I", false)
def tyX3 : Nat → FieldType := fun k => match k with
  | 0 => .object "StreetOrgans$Pipes"
  | 1 => .object "StreetOrgans$Pipes"
  | 2 => .array (.object "StreetOrgans$Tune")
  | 3 => .array (.object "StreetOrgans$Street")
  | 4 => .array .int
  | 5 => .int
  | 6 => .int
  | 7 => .int
  | 8 => .int
  | _ => .int
abbrev wsX30 : List Cond := u_ws RX3 TX3 10
theorem nmX3 : ∀ a, a < 10 → ∀ b, b < 10 → a ≠ b → (TX3 a).2.1 ≠ (TX3 b).2.1 := by decide +kernel
theorem tyX3_ok : ∀ k, k < 10 → parseFieldDescriptor (TX3 k).2.2.1 = some (tyX3 k) := by decide +kernel
abbrev cX3_init : ByteArray := prog_1_method_1_code
def yX3_init : MethodName := ⟨RX3, "<init>", "()V"⟩
abbrev cX3_barrel : ByteArray := prog_1_method_2_code
def yX3_barrel : MethodName := ⟨RX3, "barrel", "()I"⟩
abbrev cX3_pin : ByteArray := prog_1_method_3_code
def yX3_pin : MethodName := ⟨RX3, "pin", "(II)I"⟩
abbrev cX3_note : ByteArray := prog_1_method_4_code
def yX3_note : MethodName := ⟨RX3, "note", "(II)I"⟩
abbrev cX3_street : ByteArray := prog_1_method_5_code
def yX3_street : MethodName := ⟨RX3, "street", "(II)I"⟩
abbrev cX3_permit : ByteArray := prog_1_method_6_code
def yX3_permit : MethodName := ⟨RX3, "permit", "(II)I"⟩
abbrev cX3_setDamp : ByteArray := prog_1_method_7_code
def yX3_setDamp : MethodName := ⟨RX3, "setDamp", "(II)I"⟩
abbrev cX3_play : ByteArray := prog_1_method_8_code
def yX3_play : MethodName := ⟨RX3, "play", "(II)I"⟩
abbrev cX3_tune : ByteArray := prog_1_method_9_code
def yX3_tune : MethodName := ⟨RX3, "tune", "(II)I"⟩
abbrev cX3_felt : ByteArray := prog_1_method_10_code
def yX3_felt : MethodName := ⟨RX3, "felt", "(I)I"⟩
abbrev cX3_chase : ByteArray := prog_1_method_11_code
def yX3_chase : MethodName := ⟨RX3, "chase", "()I"⟩
abbrev cX3_pipe : ByteArray := prog_1_method_12_code
def yX3_pipe : MethodName := ⟨RX3, "pipe", "(II)I"⟩
abbrev cX3_sound : ByteArray := prog_1_method_13_code
def yX3_sound : MethodName := ⟨RX3, "sound", "(I)I"⟩
abbrev cX3_told : ByteArray := prog_1_method_14_code
def yX3_told : MethodName := ⟨RX3, "told", "(II)I"⟩
abbrev cX3_count : ByteArray := prog_1_method_15_code
def yX3_count : MethodName := ⟨RX3, "count", "(I)I"⟩
abbrev cX3_rest : ByteArray := prog_1_method_16_code
def yX3_rest : MethodName := ⟨RX3, "rest", "(I)I"⟩
abbrev cX3_pays : ByteArray := prog_1_method_17_code
def yX3_pays : MethodName := ⟨RX3, "pays", "(II)I"⟩
abbrev cX3_best : ByteArray := prog_1_method_18_code
def yX3_best : MethodName := ⟨RX3, "best", "(I)I"⟩
abbrev cX3_worst : ByteArray := prog_1_method_19_code
def yX3_worst : MethodName := ⟨RX3, "worst", "(I)I"⟩
abbrev cX3_foresee : ByteArray := prog_1_method_20_code
def yX3_foresee : MethodName := ⟨RX3, "foresee", "(II)I"⟩
abbrev cX3_lasts : ByteArray := prog_1_method_21_code
def yX3_lasts : MethodName := ⟨RX3, "lasts", "(I)I"⟩
abbrev cX3_mean : ByteArray := prog_1_method_22_code
def yX3_mean : MethodName := ⟨RX3, "mean", "()D"⟩
abbrev cX3_digest : ByteArray := prog_1_method_23_code
def yX3_digest : MethodName := ⟨RX3, "digest", "()J"⟩
abbrev cX3_checkTune : ByteArray := prog_1_method_24_code
def yX3_checkTune : MethodName := ⟨RX3, "checkTune", "(I)V"⟩
abbrev cX3_checkStreet : ByteArray := prog_1_method_25_code
def yX3_checkStreet : MethodName := ⟨RX3, "checkStreet", "(I)V"⟩
abbrev cX3_checkPipe : ByteArray := prog_1_method_26_code
def yX3_checkPipe : MethodName := ⟨RX3, "checkPipe", "(I)V"⟩
abbrev cX3_checkPermits : ByteArray := prog_1_method_27_code
def yX3_checkPermits : MethodName := ⟨RX3, "checkPermits", "(I)V"⟩
abbrev cX3_checkNights : ByteArray := prog_1_method_28_code
def yX3_checkNights : MethodName := ⟨RX3, "checkNights", "(I)V"⟩
abbrev cX3_weekdayOf : ByteArray := prog_1_method_29_code
def yX3_weekdayOf : MethodName := ⟨RX3, "weekdayOf", "(I)I"⟩
abbrev cX3_payNow : ByteArray := prog_1_method_30_code
def yX3_payNow : MethodName := ⟨RX3, "payNow", "(II)I"⟩
abbrev cX3_payFine : ByteArray := prog_1_method_31_code
def yX3_payFine : MethodName := ⟨RX3, "payFine", "()I"⟩
abbrev cX3_passNights : ByteArray := prog_1_method_32_code
def yX3_passNights : MethodName := ⟨RX3, "passNights", "(LStreetOrgans$Pipes;I)I"⟩
abbrev cX3_countNow : ByteArray := prog_1_method_33_code
def yX3_countNow : MethodName := ⟨RX3, "countNow", "(I)I"⟩
abbrev cX3_mix : ByteArray := prog_1_method_34_code
def yX3_mix : MethodName := ⟨RX3, "mix", "(JI)J"⟩
abbrev cX3_mixTune : ByteArray := prog_1_method_35_code
def yX3_mixTune : MethodName := ⟨RX3, "mixTune", "(JLStreetOrgans$Tune;)J"⟩
abbrev cX3_mixStreet : ByteArray := prog_1_method_36_code
def yX3_mixStreet : MethodName := ⟨RX3, "mixStreet", "(JI)J"⟩
def RX4 : String := "StreetOrgansModel$Pipes"
def TX4 : u_T := fun k => match k with
  | 0 => ("StreetOrgansModel$Pipes", "day", "I", false)
  | 1 => ("StreetOrgansModel$Pipes", "worn", "[I", true)
  | 2 => ("StreetOrgansModel$Pipes", "off", "[I", true)
  | 3 => ("StreetOrgansModel$Pipes", "cricket", "[I", true)
  | _ => ("StreetOrgansModel$Pipes", "sang", "[I", true)
def tyX4 : Nat → FieldType := fun k => match k with
  | 0 => .int
  | 1 => .array .int
  | 2 => .array .int
  | 3 => .array .int
  | _ => .array .int
abbrev wsX40 : List Cond := u_ws RX4 TX4 5
theorem nmX4 : ∀ a, a < 5 → ∀ b, b < 5 → a ≠ b → (TX4 a).2.1 ≠ (TX4 b).2.1 := by decide +kernel
theorem tyX4_ok : ∀ k, k < 5 → parseFieldDescriptor (TX4 k).2.2.1 = some (tyX4 k) := by decide +kernel
abbrev cX4_init : ByteArray := prog_7_method_1_code
def yX4_init : MethodName := ⟨RX4, "<init>", "()V"⟩
abbrev cX4_become : ByteArray := prog_7_method_2_code
def yX4_become : MethodName := ⟨RX4, "become", "(LStreetOrgansModel$Pipes;)V"⟩
abbrev cX4_harm : ByteArray := prog_7_method_3_code
def yX4_harm : MethodName := ⟨RX4, "harm", "(I)I"⟩
abbrev cX4_sing : ByteArray := prog_7_method_4_code
def yX4_sing : MethodName := ⟨RX4, "sing", "(I)V"⟩
abbrev cX4_rest : ByteArray := prog_7_method_5_code
def yX4_rest : MethodName := ⟨RX4, "rest", "(I)I"⟩
abbrev cX4_crickets : ByteArray := prog_7_method_6_code
def yX4_crickets : MethodName := ⟨RX4, "crickets", "()I"⟩
abbrev cX4_allWorn : ByteArray := prog_7_method_7_code
def yX4_allWorn : MethodName := ⟨RX4, "allWorn", "()I"⟩
abbrev cX4_allOff : ByteArray := prog_7_method_8_code
def yX4_allOff : MethodName := ⟨RX4, "allOff", "()I"⟩
def RX5 : String := "StreetOrgansModel"
def TX5 : u_T := fun k => match k with
  | 0 => ("StreetOrgansModel", "thrown", "I", false)
  | 1 => ("StreetOrgansModel", "tunes", "I", false)
  | 2 => ("StreetOrgansModel", "many", "[I", true)
  | 3 => ("StreetOrgansModel", "notes", "[I", true)
  | 4 => ("StreetOrgansModel", "streets", "I", false)
  | 5 => ("StreetOrgansModel", "listeners", "[I", true)
  | 6 => ("StreetOrgansModel", "permits", "[I", true)
  | 7 => ("StreetOrgansModel", "paid", "[I", true)
  | 8 => ("StreetOrgansModel", "played", "[I", true)
  | 9 => ("StreetOrgansModel", "damp", "[I", true)
  | 10 => ("StreetOrgansModel", "coins", "I", false)
  | 11 => ("StreetOrgansModel", "fines", "I", false)
  | 12 => ("StreetOrgansModel", "s", "LStreetOrgansModel$Pipes;", true)
  | _ => ("StreetOrgansModel", "ahead", "LStreetOrgansModel$Pipes;", true)
def tyX5 : Nat → FieldType := fun k => match k with
  | 0 => .int
  | 1 => .int
  | 2 => .array .int
  | 3 => .array .int
  | 4 => .int
  | 5 => .array .int
  | 6 => .array .int
  | 7 => .array .int
  | 8 => .array .int
  | 9 => .array .int
  | 10 => .int
  | 11 => .int
  | 12 => .object "StreetOrgansModel$Pipes"
  | _ => .object "StreetOrgansModel$Pipes"
abbrev wsX50 : List Cond := u_ws RX5 TX5 14
theorem nmX5 : ∀ a, a < 14 → ∀ b, b < 14 → a ≠ b → (TX5 a).2.1 ≠ (TX5 b).2.1 := by decide +kernel
theorem tyX5_ok : ∀ k, k < 14 → parseFieldDescriptor (TX5 k).2.2.1 = some (tyX5 k) := by decide +kernel
abbrev cX5_init : ByteArray := prog_6_method_1_code
def yX5_init : MethodName := ⟨RX5, "<init>", "()V"⟩
abbrev cX5_thrown : ByteArray := prog_6_method_2_code
def yX5_thrown : MethodName := ⟨RX5, "thrown", "()I"⟩
abbrev cX5_no : ByteArray := prog_6_method_3_code
def yX5_no : MethodName := ⟨RX5, "no", "(I)I"⟩
abbrev cX5_held : ByteArray := prog_6_method_4_code
def yX5_held : MethodName := ⟨RX5, "held", "(I)I"⟩
abbrev cX5_isIn : ByteArray := prog_6_method_5_code
def yX5_isIn : MethodName := ⟨RX5, "isIn", "(III)Z"⟩
abbrev cX5_isTune : ByteArray := prog_6_method_6_code
def yX5_isTune : MethodName := ⟨RX5, "isTune", "(I)Z"⟩
abbrev cX5_isStreet : ByteArray := prog_6_method_7_code
def yX5_isStreet : MethodName := ⟨RX5, "isStreet", "(I)Z"⟩
abbrev cX5_isPipe : ByteArray := prog_6_method_8_code
def yX5_isPipe : MethodName := ⟨RX5, "isPipe", "(I)Z"⟩
abbrev cX5_isDays : ByteArray := prog_6_method_9_code
def yX5_isDays : MethodName := ⟨RX5, "isDays", "(I)Z"⟩
abbrev cX5_barrel : ByteArray := prog_6_method_10_code
def yX5_barrel : MethodName := ⟨RX5, "barrel", "()I"⟩
abbrev cX5_pin : ByteArray := prog_6_method_11_code
def yX5_pin : MethodName := ⟨RX5, "pin", "(II)I"⟩
abbrev cX5_note : ByteArray := prog_6_method_12_code
def yX5_note : MethodName := ⟨RX5, "note", "(II)I"⟩
abbrev cX5_street : ByteArray := prog_6_method_13_code
def yX5_street : MethodName := ⟨RX5, "street", "(II)I"⟩
abbrev cX5_permit : ByteArray := prog_6_method_14_code
def yX5_permit : MethodName := ⟨RX5, "permit", "(II)I"⟩
abbrev cX5_setDamp : ByteArray := prog_6_method_15_code
def yX5_setDamp : MethodName := ⟨RX5, "setDamp", "(II)I"⟩
abbrev cX5_soundOf : ByteArray := prog_6_method_16_code
def yX5_soundOf : MethodName := ⟨RX5, "soundOf", "(ILStreetOrgansModel$Pipes;I)I"⟩
abbrev cX5_paysNow : ByteArray := prog_6_method_17_code
def yX5_paysNow : MethodName := ⟨RX5, "paysNow", "(II)I"⟩
abbrev cX5_isPermitted : ByteArray := prog_6_method_18_code
def yX5_isPermitted : MethodName := ⟨RX5, "isPermitted", "(I)Z"⟩
abbrev cX5_sing : ByteArray := prog_6_method_19_code
def yX5_sing : MethodName := ⟨RX5, "sing", "(ILStreetOrgansModel$Pipes;)V"⟩
abbrev cX5_play : ByteArray := prog_6_method_20_code
def yX5_play : MethodName := ⟨RX5, "play", "(II)I"⟩
abbrev cX5_tune : ByteArray := prog_6_method_21_code
def yX5_tune : MethodName := ⟨RX5, "tune", "(II)I"⟩
abbrev cX5_felt : ByteArray := prog_6_method_22_code
def yX5_felt : MethodName := ⟨RX5, "felt", "(I)I"⟩
abbrev cX5_chase : ByteArray := prog_6_method_23_code
def yX5_chase : MethodName := ⟨RX5, "chase", "()I"⟩
abbrev cX5_pipeTold : ByteArray := prog_6_method_24_code
def yX5_pipeTold : MethodName := ⟨RX5, "pipeTold", "(II)I"⟩
abbrev cX5_pipe : ByteArray := prog_6_method_25_code
def yX5_pipe : MethodName := ⟨RX5, "pipe", "(II)I"⟩
abbrev cX5_sound : ByteArray := prog_6_method_26_code
def yX5_sound : MethodName := ⟨RX5, "sound", "(I)I"⟩
abbrev cX5_streetTold : ByteArray := prog_6_method_27_code
def yX5_streetTold : MethodName := ⟨RX5, "streetTold", "(II)I"⟩
abbrev cX5_told : ByteArray := prog_6_method_28_code
def yX5_told : MethodName := ⟨RX5, "told", "(II)I"⟩
abbrev cX5_counted : ByteArray := prog_6_method_29_code
def yX5_counted : MethodName := ⟨RX5, "counted", "(I)I"⟩
abbrev cX5_count : ByteArray := prog_6_method_30_code
def yX5_count : MethodName := ⟨RX5, "count", "(I)I"⟩
abbrev cX5_rest : ByteArray := prog_6_method_31_code
def yX5_rest : MethodName := ⟨RX5, "rest", "(I)I"⟩
abbrev cX5_pays : ByteArray := prog_6_method_32_code
def yX5_pays : MethodName := ⟨RX5, "pays", "(II)I"⟩
abbrev cX5_best : ByteArray := prog_6_method_33_code
def yX5_best : MethodName := ⟨RX5, "best", "(I)I"⟩
abbrev cX5_worst : ByteArray := prog_6_method_34_code
def yX5_worst : MethodName := ⟨RX5, "worst", "(I)I"⟩
abbrev cX5_foresee : ByteArray := prog_6_method_35_code
def yX5_foresee : MethodName := ⟨RX5, "foresee", "(II)I"⟩
abbrev cX5_lasts : ByteArray := prog_6_method_36_code
def yX5_lasts : MethodName := ⟨RX5, "lasts", "(I)I"⟩
abbrev cX5_mean : ByteArray := prog_6_method_37_code
def yX5_mean : MethodName := ⟨RX5, "mean", "()D"⟩
abbrev cX5_digest : ByteArray := prog_6_method_38_code
def yX5_digest : MethodName := ⟨RX5, "digest", "()J"⟩
def RJx145de : String := "java/io/Serializable"
def TJx145de : u_T := fun k => match k with
  | _ => ("", "", "", false)
def tyJx145de : Nat → FieldType := fun k => match k with
  | _ => .int
theorem nmJx145de : ∀ a, a < 0 → ∀ b, b < 0 → a ≠ b → (TJx145de a).2.1 ≠ (TJx145de b).2.1 := by decide +kernel
theorem tyJx145de_ok : ∀ k, k < 0 → parseFieldDescriptor (TJx145de k).2.2.1 = some (tyJx145de k) := by decide +kernel
def RJ9 : String := "java/lang/Math"
def TJ9 : u_T := fun k => match k with
  | _ => ("", "", "", false)
def tyJ9 : Nat → FieldType := fun k => match k with
  | _ => .int
abbrev wsJ90 : List Cond := u_ws RJ9 TJ9 0
theorem nmJ9 : ∀ a, a < 0 → ∀ b, b < 0 → a ≠ b → (TJ9 a).2.1 ≠ (TJ9 b).2.1 := by decide +kernel
theorem tyJ9_ok : ∀ k, k < 0 → parseFieldDescriptor (TJ9 k).2.2.1 = some (tyJ9 k) := by decide +kernel
abbrev cJ9_floorMod_7cf53 : ByteArray := prog_12_method_50_code
def yJ9_floorMod_7cf53 : MethodName := ⟨RJ9, "floorMod", "(II)I"⟩
abbrev cJ9_abs_0f7a4 : ByteArray := prog_12_method_59_code
def yJ9_abs_0f7a4 : MethodName := ⟨RJ9, "abs", "(I)I"⟩
abbrev cJ9_max_7cf53 : ByteArray := prog_12_method_65_code
def yJ9_max_7cf53 : MethodName := ⟨RJ9, "max", "(II)I"⟩
abbrev cJ9_min_7cf53 : ByteArray := prog_12_method_69_code
def yJ9_min_7cf53 : MethodName := ⟨RJ9, "min", "(II)I"⟩
def RJ0 : String := "java/lang/String"
def TJ0 : u_T := fun k => match k with
  | _ => ("", "", "", false)
def tyJ0 : Nat → FieldType := fun k => match k with
  | _ => .int
abbrev wsJ00 : List Cond := u_ws RJ0 TJ0 0
theorem nmJ0 : ∀ a, a < 0 → ∀ b, b < 0 → a ≠ b → (TJ0 a).2.1 ≠ (TJ0 b).2.1 := by decide +kernel
theorem tyJ0_ok : ∀ k, k < 0 → parseFieldDescriptor (TJ0 k).2.2.1 = some (tyJ0 k) := by decide +kernel
def RJ10 : String := "java/lang/System"
def TJ10 : u_T := fun k => match k with
  | _ => ("", "", "", false)
def tyJ10 : Nat → FieldType := fun k => match k with
  | _ => .int
abbrev wsJ100 : List Cond := u_ws RJ10 TJ10 0
theorem nmJ10 : ∀ a, a < 0 → ∀ b, b < 0 → a ≠ b → (TJ10 a).2.1 ≠ (TJ10 b).2.1 := by decide +kernel
theorem tyJ10_ok : ∀ k, k < 0 → parseFieldDescriptor (TJ10 k).2.2.1 = some (tyJ10 k) := by decide +kernel
def RJ7 : String := "java/util/Arrays"
def TJ7 : u_T := fun k => match k with
  | _ => ("", "", "", false)
def tyJ7 : Nat → FieldType := fun k => match k with
  | _ => .int
abbrev wsJ70 : List Cond := u_ws RJ7 TJ7 0
theorem nmJ7 : ∀ a, a < 0 → ∀ b, b < 0 → a ≠ b → (TJ7 a).2.1 ≠ (TJ7 b).2.1 := by decide +kernel
theorem tyJ7_ok : ∀ k, k < 0 → parseFieldDescriptor (TJ7 k).2.2.1 = some (tyJ7 k) := by decide +kernel
abbrev cJ7_fill_53178 : ByteArray := prog_17_method_103_code
def yJ7_fill_53178 : MethodName := ⟨RJ7, "fill", "([II)V"⟩
def RL : String := "StreetOrgansLaw"
abbrev cL_barrel : ByteArray := method_3_code
def yL_barrel : MethodName := ⟨RL, "barrel", "(LStreetOrgans;[J)I"⟩
abbrev cL_pin : ByteArray := method_4_code
def yL_pin : MethodName := ⟨RL, "pin", "(LStreetOrgans;II[J)I"⟩
abbrev cL_note : ByteArray := method_5_code
def yL_note : MethodName := ⟨RL, "note", "(LStreetOrgans;II[J)I"⟩
abbrev cL_street : ByteArray := method_6_code
def yL_street : MethodName := ⟨RL, "street", "(LStreetOrgans;II[J)I"⟩
abbrev cL_permit : ByteArray := method_7_code
def yL_permit : MethodName := ⟨RL, "permit", "(LStreetOrgans;II[J)I"⟩
abbrev cL_setDamp : ByteArray := method_8_code
def yL_setDamp : MethodName := ⟨RL, "setDamp", "(LStreetOrgans;II[J)I"⟩
abbrev cL_play : ByteArray := method_9_code
def yL_play : MethodName := ⟨RL, "play", "(LStreetOrgans;II[J)I"⟩
abbrev cL_tune : ByteArray := method_10_code
def yL_tune : MethodName := ⟨RL, "tune", "(LStreetOrgans;II[J)I"⟩
abbrev cL_felt : ByteArray := method_11_code
def yL_felt : MethodName := ⟨RL, "felt", "(LStreetOrgans;I[J)I"⟩
abbrev cL_pipe : ByteArray := method_12_code
def yL_pipe : MethodName := ⟨RL, "pipe", "(LStreetOrgans;II[J)I"⟩
abbrev cL_sound : ByteArray := method_13_code
def yL_sound : MethodName := ⟨RL, "sound", "(LStreetOrgans;I[J)I"⟩
abbrev cL_told : ByteArray := method_14_code
def yL_told : MethodName := ⟨RL, "told", "(LStreetOrgans;II[J)I"⟩
abbrev cL_count : ByteArray := method_15_code
def yL_count : MethodName := ⟨RL, "count", "(LStreetOrgans;I[J)I"⟩
abbrev cL_rest : ByteArray := method_16_code
def yL_rest : MethodName := ⟨RL, "rest", "(LStreetOrgans;I[J)I"⟩
abbrev cL_pays : ByteArray := method_17_code
def yL_pays : MethodName := ⟨RL, "pays", "(LStreetOrgans;II[J)I"⟩
abbrev cL_best : ByteArray := method_18_code
def yL_best : MethodName := ⟨RL, "best", "(LStreetOrgans;I[J)I"⟩
abbrev cL_worst : ByteArray := method_19_code
def yL_worst : MethodName := ⟨RL, "worst", "(LStreetOrgans;I[J)I"⟩
abbrev cL_foresee : ByteArray := method_20_code
def yL_foresee : MethodName := ⟨RL, "foresee", "(LStreetOrgans;II[J)I"⟩
abbrev cL_lasts : ByteArray := method_21_code
def yL_lasts : MethodName := ⟨RL, "lasts", "(LStreetOrgans;I[J)I"⟩
abbrev cL_law : ByteArray := code
def yL_law : MethodName := ⟨RL, "law", "([I)Z"⟩
abbrev vwCl : List vw_C := [(RX0, TX0, 4), (RX1, TX1, 4), (RX2, TX2, 3), (RX3, TX3, 10), (RX4, TX4, 5), (RX5, TX5, 14)]
/-- the words of the tables that are kept -/
def wAll : List Cond := lw_tbl.filter goodWord
theorem wAll_in : ∀ w ∈ wAll, w ∈ lw_tbl := fun w h => (List.mem_filter.mp h).1
theorem wAll_good : ∀ w ∈ wAll, goodWord w = true := fun w h => (List.mem_filter.mp h).2
theorem kAll {w : Cond} (i : Nat) (h : lw_tbl[i]? = some w) (hg : goodWord w = true) : w ∈ wAll := List.mem_filter.mpr ⟨List.mem_of_getElem? h, hg⟩
end
section
/-! A world by numbers: n cells at ad 0 .. ad (n-1); the cell k holds what cz says of its row ρ k -/
def gT (cy : Nat → ClassId) : List (ClassId × FieldType) := [(cy 0, .int), (cy 1, .boolean), (cy 2, .object "StreetOrgans$Tune"), (cy 3, .object "StreetOrgans$Street"), (cy 4, .long)]
def up1 (ρ : Nat → Nat → Int32) (k : Nat) (r : Nat → Int32) : Nat → Nat → Int32 := fun i => if i = k then r else ρ i
def up2 (ρ : Nat → Nat → Int32) (k j : Nat) (v : Int32) : Nat → Nat → Int32 := up1 ρ k (upd (ρ k) j v)
theorem up1_s {ρ : Nat → Nat → Int32} {k : Nat} {r : Nat → Int32} : up1 ρ k r k = r := by simp [up1]
theorem up1_n {ρ : Nat → Nat → Int32} {k i : Nat} {r : Nat → Int32} (h : i ≠ k) : up1 ρ k r i = ρ i := by simp [up1, h]
def gWl (n : Nat) (ad : Nat → Nat) (cz : Nat → (Nat → Int32) → va_E) (ρ : Nat → Nat → Int32) : va_W := (List.range n).map (fun k => (ad k, cz k (ρ k)))
theorem gWl_get {n : Nat} {ad : Nat → Nat} {cz : Nat → (Nat → Int32) → va_E} {ρ : Nat → Nat → Int32} {k : Nat} (h : k < n) : (gWl n ad cz ρ)[k]? = some (ad k, cz k (ρ k)) := by
  simp [gWl, List.getElem?_range h]
theorem gWl_out {n : Nat} {ad : Nat → Nat} {cz : Nat → (Nat → Int32) → va_E} {ρ : Nat → Nat → Int32} {k : Nat} {q : Nat × va_E} (h : (gWl n ad cz ρ)[k]? = some q) : k < n ∧ q = (ad k, cz k (ρ k)) := by
  by_cases hk : k < n
  · rw [gWl_get hk] at h
    exact ⟨hk, (Option.some.inj h).symm⟩
  · have : (gWl n ad cz ρ)[k]? = none := by simp [gWl]; omega
    rw [this] at h
    cases h
theorem gWl_set {n : Nat} {ad : Nat → Nat} {cz : Nat → (Nat → Int32) → va_E} {ρ : Nat → Nat → Int32} {k : Nat} {r : Nat → Int32} {e : va_E} (h : k < n) (he : e = cz k r) : (gWl n ad cz ρ).set k (ad k, e) = gWl n ad cz (up1 ρ k r) := by
  subst he
  apply List.ext_getElem?
  intro i
  by_cases hk : i = k
  · subst hk
    rw [gWl_get h, List.getElem?_set_self (by simp [gWl]; exact h), up1_s]
  · rw [List.getElem?_set_ne (fun q => hk q.symm)]
    by_cases hi : i < n
    · rw [gWl_get hi, gWl_get hi, up1_n hk]
    · rw [List.getElem?_eq_none (by simp [gWl]; omega), List.getElem?_eq_none (by simp [gWl]; omega)]
/-- the addresses are apart -/
def gInj (n : Nat) (ad : Nat → Nat) : Prop := ∀ i j : Nat, i < n → j < n → ad i = ad j → i = j
/-- the cells of a world, and those that come from sz on -/
def gA (n : Nat) (ad : Nat → Nat) (sz : Nat) : Nat → Prop := fun q => (∃ k : Nat, k < n ∧ q = ad k) ∨ sz ≤ q
theorem gD_of {n : Nat} {ad : Nat → Nat} {cz : Nat → (Nat → Int32) → va_E} {ρ : Nat → Nat → Int32} {A : Nat → Prop} (hi : gInj n ad) (hA : ∀ k, k < n → A (ad k)) : va_D A (gWl n ad cz ρ) := by
  refine ⟨fun i j p q h1 h2 h3 => ?_, fun k q h => ?_⟩
  · obtain ⟨a1, rfl⟩ := gWl_out h1
    obtain ⟨a2, rfl⟩ := gWl_out h2
    exact hi i j a1 a2 h3
  · obtain ⟨a1, rfl⟩ := gWl_out h
    exact hA k a1
theorem gD_inj {n : Nat} {ad : Nat → Nat} {cz : Nat → (Nat → Int32) → va_E} {ρ : Nat → Nat → Int32} {A : Nat → Prop} (h : va_D A (gWl n ad cz ρ)) : gInj n ad := fun i j h1 h2 h3 => h.1 i j _ _ (gWl_get h1) (gWl_get h2) h3
theorem gD_in {n : Nat} {ad : Nat → Nat} {cz : Nat → (Nat → Int32) → va_E} {ρ : Nat → Nat → Int32} {A : Nat → Prop} (h : va_D A (gWl n ad cz ρ)) {k : Nat} (hk : k < n) : A (ad k) := h.2 k _ (gWl_get hk)
/-- another world's cells among these, from off on -/
def gSub (n : Nat) (ad : Nat → Nat) (cz : Nat → (Nat → Int32) → va_E) (off n' : Nat) (ad' : Nat → Nat) (cz' : Nat → (Nat → Int32) → va_E) : Prop := off + n' ≤ n ∧ ∀ j, j < n' → ad' j = ad (off + j) ∧ ∀ r, cz' j r = cz (off + j) r
theorem gSub_self {n : Nat} {ad : Nat → Nat} {cz : Nat → (Nat → Int32) → va_E} : gSub n ad cz 0 n ad cz := ⟨by omega, fun j _ => by rw [Nat.zero_add]; exact ⟨rfl, fun _ => rfl⟩⟩
def gBack (ρ : Nat → Nat → Int32) (off n' : Nat) (ρ1 : Nat → Nat → Int32) : Nat → Nat → Int32 := fun k => if off ≤ k ∧ k < off + n' then ρ1 (k - off) else ρ k
theorem gP_sub {D : va_G} {cl : List vw_C} {H : Heap} {n off n' : Nat} {ad ad' : Nat → Nat} {cz cz' : Nat → (Nat → Int32) → va_E} {ρ : Nat → Nat → Int32} (hs : gSub n ad cz off n' ad' cz') (hP : va_P D cl (gWl n ad cz ρ) H) : va_P D cl (gWl n' ad' cz' (fun j => ρ (off + j))) H := by
  intro k q hq
  obtain ⟨hk, rfl⟩ := gWl_out hq
  obtain ⟨e1, e2⟩ := hs.2 k hk
  rw [e1, e2]
  exact hP (off + k) _ (gWl_get (by have := hs.1; omega))
theorem gInj_sub {n off n' : Nat} {ad ad' : Nat → Nat} {cz cz' : Nat → (Nat → Int32) → va_E} (hs : gSub n ad cz off n' ad' cz') (h : gInj n ad) : gInj n' ad' := by
  intro i j hi hj hij
  rw [(hs.2 i hi).1, (hs.2 j hj).1] at hij
  have := h (off + i) (off + j) (by have := hs.1; omega) (by have := hs.1; omega) hij
  omega
/-- behind a call on some of the cells: those anew, the others as they were -/
theorem gP_back {D : va_G} {cl : List vw_C} {H H1 : Heap} {n off n' : Nat} {ad ad' : Nat → Nat} {cz cz' : Nat → (Nat → Int32) → va_E} {ρ ρ1 : Nat → Nat → Int32} (hs : gSub n ad cz off n' ad' cz') (hi : gInj n ad) (hP : va_P D cl (gWl n ad cz ρ) H) (hk : ∀ q : Nat, q < H.size → ¬ gA n' ad' H.size q → H1[q]? = H[q]?) (hP1 : va_P D cl (gWl n' ad' cz' ρ1) H1) : va_P D cl (gWl n ad cz (gBack ρ off n' ρ1)) H1 := by
  intro k q hq
  obtain ⟨hkn, rfl⟩ := gWl_out hq
  by_cases hc : off ≤ k ∧ k < off + n'
  · have e0 : off + (k - off) = k := by omega
    obtain ⟨e1, e2⟩ := hs.2 (k - off) (by omega)
    have h := hP1 (k - off) _ (gWl_get (by omega))
    rw [e0] at e1
    have e3 : ∀ r, cz' (k - off) r = cz k r := fun r => by rw [e2 r, e0]
    rw [e1, e3] at h
    have e4 : gBack ρ off n' ρ1 k = ρ1 (k - off) := by simp only [gBack]; rw [if_pos hc]
    rw [e4]
    exact h
  · have e4 : gBack ρ off n' ρ1 k = ρ k := by simp only [gBack]; rw [if_neg hc]
    rw [e4]
    have h := hP k _ (gWl_get hkn)
    refine h.kept (hk _ h.lt ?_)
    rintro (⟨j, hj, ej⟩ | h9)
    · have ej : ad k = ad' j := ej
      rw [(hs.2 j hj).1] at ej
      have := hi k (off + j) hkn (by have := hs.1; omega) ej
      omega
    · have := h.lt
      exact absurd this (Nat.not_lt.mpr h9)
theorem gP_congr {D : va_G} {cl : List vw_C} {H : Heap} {n : Nat} {ad : Nat → Nat} {cz : Nat → (Nat → Int32) → va_E} {ρ ρ1 : Nat → Nat → Int32} (h : ∀ k, k < n → cz k (ρ k) = cz k (ρ1 k)) (hP : va_P D cl (gWl n ad cz ρ) H) : va_P D cl (gWl n ad cz ρ1) H := by
  have e : gWl n ad cz ρ1 = gWl n ad cz ρ := by
    apply List.ext_getElem?
    intro i
    by_cases hi : i < n
    · rw [gWl_get hi, gWl_get hi, h i hi]
    · rw [List.getElem?_eq_none (by simp [gWl]; omega), List.getElem?_eq_none (by simp [gWl]; omega)]
  rw [e]; exact hP
/-- what a layout says of a cell: an int field, a reference field, a row of ints, a row of references -/
def gFI (cz : Nat → (Nat → Int32) → va_E) (k ci j : Nat) : Prop := ∀ r : Nat → Int32, ∃ fs : List Value, cz k r = .inr (ci, fs) ∧ fs[j]? = some (.int (r j)) ∧ j < fs.length ∧ ∀ v : Int32, (.inr (ci, fs.set j (.int v)) : va_E) = cz k (upd r j v)
def gFR (cz : Nat → (Nat → Int32) → va_E) (ad : Nat → Nat) (k ci j k2 : Nat) : Prop := ∀ r : Nat → Int32, ∃ fs : List Value, cz k r = .inr (ci, fs) ∧ fs[j]? = some (.ref (ad k2))
def gOb (cz : Nat → (Nat → Int32) → va_E) (k ci : Nat) : Prop := ∀ r : Nat → Int32, ∃ fs : List Value, cz k r = .inr (ci, fs)
def gAI (cz : Nat → (Nat → Int32) → va_E) (cA : ClassId) (k len : Nat) : Prop := ∀ r : Nat → Int32, cz k r = .inl (cA, len, .inl r)
def gAR (cz : Nat → (Nat → Int32) → va_E) (ad : Nat → Nat) (cA : ClassId) (k len : Nat) (tgt : Nat → Nat) : Prop := ∀ r : Nat → Int32, ∃ f : Nat → Option Nat, cz k r = .inl (cA, len, .inr (.inr (.inr (.inr f)))) ∧ ∀ i, i < len → f i = some (ad (tgt i))
def gAL (cz : Nat → (Nat → Int32) → va_E) (cA : ClassId) (k len : Nat) : Prop := ∀ r : Nat → Int32, cz k r = .inl (cA, len, .inr (.inl (fun j => (r j).toInt64)))
/-- the words that want a premise of their own -/
def gNsw : List Cond := [.methodLinkNest "StreetOrgans" 9 ⟨"StreetOrgans$Pipes","<init>","()V"⟩ "StreetOrgans", .methodLinkNest "StreetOrgans" 25 ⟨"StreetOrgans$Tune","<init>","()V"⟩ "StreetOrgans", .methodLinkNest "StreetOrgans" 32 ⟨"StreetOrgans$Street","<init>","()V"⟩ "StreetOrgans", .castable "java/lang/IllegalStateException" "java/lang/IllegalStateException", .castable "java/lang/IndexOutOfBoundsException" "java/lang/IndexOutOfBoundsException", .castable "java/lang/IllegalArgumentException" "java/lang/IllegalArgumentException", .methodLinkNest "StreetOrgansModel" 37 ⟨"StreetOrgansModel$Pipes","<init>","()V"⟩ "StreetOrgansModel", .fieldLinkNest "StreetOrgansModel" 91 "StreetOrgansModel$Pipes" "day" "I" "StreetOrgansModel", .fieldLinkNest "StreetOrgansModel" 116 "StreetOrgansModel$Pipes" "worn" "[I" "StreetOrgansModel", .fieldLinkNest "StreetOrgansModel" 110 "StreetOrgansModel$Pipes" "off" "[I" "StreetOrgansModel", .fieldLinkNest "StreetOrgansModel" 123 "StreetOrgansModel$Pipes" "cricket" "[I" "StreetOrgansModel", .fieldLinkNest "StreetOrgansModel" 126 "StreetOrgansModel$Pipes" "sang" "[I" "StreetOrgansModel", .methodLinkNest "StreetOrgansModel$Pipes" 44 ⟨"StreetOrgansModel","held","(I)I"⟩ "StreetOrgansModel", .declares ⟨"java/lang/RuntimeException","<init>","()V"⟩, .declares ⟨"java/lang/RuntimeException","<init>","(Ljava/lang/String;)V"⟩, .declares ⟨"java/lang/Exception","<init>","()V"⟩, .declares ⟨"java/lang/Exception","<init>","(Ljava/lang/String;)V"⟩, .declares ⟨"java/lang/Throwable","<init>","()V"⟩, .declares ⟨"java/lang/Throwable","<init>","(Ljava/lang/String;)V"⟩]
def gNst (U : State) : Prop := ∀ w ∈ gNsw, va_Nw w U
theorem gNst_same {u U : State} (hv : u.vm = U.vm) (h : gNst u) : gNst U := fun w hw => va_Nw.same ((List.all_eq_true.mp (show gNsw.all Cond.onTables = true by decide +kernel)) w hw) hv (h w hw)
theorem gNst_warm {s U : State} (hW : s.WarmedH U.vm) (h : gNst s) : gNst U := by
  intro w hw
  have h1 := h w hw
  simp only [gNsw, List.mem_cons, List.not_mem_nil, or_false] at hw
  rcases hw with rfl | rfl | rfl | rfl | rfl | rfl | rfl | rfl | rfl | rfl | rfl | rfl | rfl | rfl | rfl | rfl | rfl | rfl | rfl
  · exact va_Nw.warmM hW h1
  · exact va_Nw.warmM hW h1
  · exact va_Nw.warmM hW h1
  · exact va_Nw.warmC hW h1
  · exact va_Nw.warmC hW h1
  · exact va_Nw.warmC hW h1
  · exact va_Nw.warmM hW h1
  · exact va_Nw.warmF hW h1
  · exact va_Nw.warmF hW h1
  · exact va_Nw.warmF hW h1
  · exact va_Nw.warmF hW h1
  · exact va_Nw.warmF hW h1
  · exact va_Nw.warmM hW h1
  · exact va_Nw.warmD hW h1
  · exact va_Nw.warmD hW h1
  · exact va_Nw.warmD hW h1
  · exact va_Nw.warmD hW h1
  · exact va_Nw.warmD hW h1
  · exact va_Nw.warmD hW h1
/-- an activation's fixed things -/
def gX (p : Program) (m : MethodId) (c : Code) (cc : ByteArray) (nL : Nat) (s : State) (args : Array Value) (Ts : List Cond) (own : String) (D : va_G) (cy : Nat → ClassId) (A : Nat → Prop) : Prop := CallFix p m c cc nL s args Ts own ∧ va_K D vwCl (gT cy) s ∧ (∀ q, s.heap.size ≤ q → A q) ∧ (∀ w ∈ wAll, w ∈ Ts) ∧ gNst s
/-- the walk, whatever the heap that holds the world -/
def GW (p : Program) (l : Launch) (e : Env) (R : Room) (s : State) (m : MethodId) (args : Array Value) (below : List Frame) (meth : Method) (c : Code) (Q : State → Prop) (nL : Nat) (D : va_G) (A : Nat → Prop) (n : Nat) (ad : Nat → Nat) (cz : Nat → (Nat → Int32) → va_E) (ρ : Nat → Nat → Int32) (cells slots pc : Nat) (ls : List (Nat × Value)) (st : List Value) : Prop :=
  ∀ (H : Heap) (locs : List Loc) (la : Array Slot), va_P D vwCl (gWl n ad cz ρ) H → va_D A (gWl n ad cz ρ) → va_S A s.heap H locs → lv_has la nL ls → W p l e R s m args below meth c H locs cells slots Q (F0 m pc la st)
section GWS
variable {p : Program} {l : Launch} {e : Env} {R : Room} {s : State} {m : MethodId} {args : Array Value} {below : List Frame} {meth : Method} {c : Code} {Q : State → Prop}
variable {cc : ByteArray} {nL : Nat} {Ts : List Cond} {own : String} {D : va_G} {cy : Nat → ClassId} {A : Nat → Prop}
variable {n : Nat} {ad : Nat → Nat} {cz : Nat → (Nat → Int32) → va_E} {ρ : Nat → Nat → Int32} {cells slots pc : Nat} {ls ls' : List (Nat × Value)} {st rest : List Value}

theorem g_iconst (X : gX p m c cc nL s args Ts own D cy A) {z : Int} {v : Int32} (hd : decode cc pc = .ok (.iconst z, 1)) (hv : Int32.ofInt z = v) (kk : GW p l e R s m args below meth c Q nL D A n ad cz ρ cells slots (pc + 1) ls (.int v :: st)) : GW p l e R s m args below meth c Q nL D A n ad cz ρ cells slots pc ls st := fun H locs la hP hD hS hl => lv_iconst X.1.1 X.1.2.1 hd hv (kk H locs la hP hD hS hl)
theorem g_bipush (X : gX p m c cc nL s args Ts own D cy A) {z : Int} {v : Int32} (hd : decode cc pc = .ok (.bipush z, 2)) (hv : (Int8.ofInt z).toInt32 = v) (kk : GW p l e R s m args below meth c Q nL D A n ad cz ρ cells slots (pc + 2) ls (.int v :: st)) : GW p l e R s m args below meth c Q nL D A n ad cz ρ cells slots pc ls st := fun H locs la hP hD hS hl => lv_bipush X.1.1 X.1.2.1 hd hv (kk H locs la hP hD hS hl)
theorem g_sipush (X : gX p m c cc nL s args Ts own D cy A) {z : Int} {v : Int32} (hd : decode cc pc = .ok (.sipush z, 3)) (hv : (Int16.ofInt z).toInt32 = v) (kk : GW p l e R s m args below meth c Q nL D A n ad cz ρ cells slots (pc + 3) ls (.int v :: st)) : GW p l e R s m args below meth c Q nL D A n ad cz ρ cells slots pc ls st := fun H locs la hP hD hS hl => lv_sipush X.1.1 X.1.2.1 hd hv (kk H locs la hP hD hS hl)
theorem g_lconst (X : gX p m c cc nL s args Ts own D cy A) {z : Fin 2} {v : Int64} (hd : decode cc pc = .ok (.lconst z, 1)) (hv : Int64.ofNat (z : Nat) = v) (kk : GW p l e R s m args below meth c Q nL D A n ad cz ρ cells slots (pc + 1) ls (.long v :: st)) : GW p l e R s m args below meth c Q nL D A n ad cz ρ cells slots pc ls st := fun H locs la hP hD hS hl => lv_lconst X.1.1 X.1.2.1 hd hv (kk H locs la hP hD hS hl)
theorem g_dconst0 (X : gX p m c cc nL s args Ts own D cy A)  (hd : decode cc pc = .ok (.dconst 0, 1)) (kk : GW p l e R s m args below meth c Q nL D A n ad cz ρ cells slots (pc + 1) ls (.double 0 :: st)) : GW p l e R s m args below meth c Q nL D A n ad cz ρ cells slots pc ls st := fun H locs la hP hD hS hl => lv_dconst0 X.1.1 X.1.2.1 hd (kk H locs la hP hD hS hl)
theorem g_iload_n (X : gX p m c cc nL s args Ts own D cy A) {k : Fin 4} {i place : Nat} {x : Int32} (hd : decode cc pc = .ok (.iload_n k, 1)) (place : Nat) (hi : (k : Nat) = i) (hq : ls[place]? = some (i, .int x)) (kk : GW p l e R s m args below meth c Q nL D A n ad cz ρ cells slots (pc + 1) ls (.int x :: st)) : GW p l e R s m args below meth c Q nL D A n ad cz ρ cells slots pc ls st := fun H locs la hP hD hS hl => lv_iload_n X.1.1 X.1.2.1 hd hi (lv_at hl place hq) (kk H locs la hP hD hS hl)
theorem g_iload (X : gX p m c cc nL s args Ts own D cy A) {i place : Nat} {x : Int32} (hd : decode cc pc = .ok (.iload i, 2)) (place : Nat) (hq : ls[place]? = some (i, .int x)) (kk : GW p l e R s m args below meth c Q nL D A n ad cz ρ cells slots (pc + 2) ls (.int x :: st)) : GW p l e R s m args below meth c Q nL D A n ad cz ρ cells slots pc ls st := fun H locs la hP hD hS hl => lv_iload X.1.1 X.1.2.1 hd (lv_at hl place hq) (kk H locs la hP hD hS hl)
theorem g_lload_n (X : gX p m c cc nL s args Ts own D cy A) {k : Fin 4} {i place : Nat} {x : Int64} (hd : decode cc pc = .ok (.lload_n k, 1)) (place : Nat) (hi : (k : Nat) = i) (hq : ls[place]? = some (i, .long x)) (kk : GW p l e R s m args below meth c Q nL D A n ad cz ρ cells slots (pc + 1) ls (.long x :: st)) : GW p l e R s m args below meth c Q nL D A n ad cz ρ cells slots pc ls st := fun H locs la hP hD hS hl => lv_lload_n X.1.1 X.1.2.1 hd hi (lv_at hl place hq) (kk H locs la hP hD hS hl)
theorem g_lload (X : gX p m c cc nL s args Ts own D cy A) {i place : Nat} {x : Int64} (hd : decode cc pc = .ok (.lload i, 2)) (place : Nat) (hq : ls[place]? = some (i, .long x)) (kk : GW p l e R s m args below meth c Q nL D A n ad cz ρ cells slots (pc + 2) ls (.long x :: st)) : GW p l e R s m args below meth c Q nL D A n ad cz ρ cells slots pc ls st := fun H locs la hP hD hS hl => lv_lload X.1.1 X.1.2.1 hd (lv_at hl place hq) (kk H locs la hP hD hS hl)
theorem g_aload_n (X : gX p m c cc nL s args Ts own D cy A) {k : Fin 4} {i place : Nat} {x : Nat} (hd : decode cc pc = .ok (.aload_n k, 1)) (place : Nat) (hi : (k : Nat) = i) (hq : ls[place]? = some (i, .ref x)) (kk : GW p l e R s m args below meth c Q nL D A n ad cz ρ cells slots (pc + 1) ls (.ref x :: st)) : GW p l e R s m args below meth c Q nL D A n ad cz ρ cells slots pc ls st := fun H locs la hP hD hS hl => lv_aload_n X.1.1 X.1.2.1 hd hi (lv_at hl place hq) (kk H locs la hP hD hS hl)
theorem g_aload (X : gX p m c cc nL s args Ts own D cy A) {i place : Nat} {x : Nat} (hd : decode cc pc = .ok (.aload i, 2)) (place : Nat) (hq : ls[place]? = some (i, .ref x)) (kk : GW p l e R s m args below meth c Q nL D A n ad cz ρ cells slots (pc + 2) ls (.ref x :: st)) : GW p l e R s m args below meth c Q nL D A n ad cz ρ cells slots pc ls st := fun H locs la hP hD hS hl => lv_aload X.1.1 X.1.2.1 hd (lv_at hl place hq) (kk H locs la hP hD hS hl)
theorem g_dload_n (X : gX p m c cc nL s args Ts own D cy A) {k : Fin 4} {i place : Nat} {x : UInt64} (hd : decode cc pc = .ok (.dload_n k, 1)) (place : Nat) (hi : (k : Nat) = i) (hq : ls[place]? = some (i, .double x)) (kk : GW p l e R s m args below meth c Q nL D A n ad cz ρ cells slots (pc + 1) ls (.double x :: st)) : GW p l e R s m args below meth c Q nL D A n ad cz ρ cells slots pc ls st := fun H locs la hP hD hS hl => lv_dload_n X.1.1 X.1.2.1 hd hi (lv_at hl place hq) (kk H locs la hP hD hS hl)
theorem g_dload (X : gX p m c cc nL s args Ts own D cy A) {i place : Nat} {x : UInt64} (hd : decode cc pc = .ok (.dload i, 2)) (place : Nat) (hq : ls[place]? = some (i, .double x)) (kk : GW p l e R s m args below meth c Q nL D A n ad cz ρ cells slots (pc + 2) ls (.double x :: st)) : GW p l e R s m args below meth c Q nL D A n ad cz ρ cells slots pc ls st := fun H locs la hP hD hS hl => lv_dload X.1.1 X.1.2.1 hd (lv_at hl place hq) (kk H locs la hP hD hS hl)
theorem g_istore_n (X : gX p m c cc nL s args Ts own D cy A) {k : Fin 4} {i : Nat} {x : Int32} (ls' : List (Nat × Value)) (hd : decode cc pc = .ok (.istore_n k, 1)) (hi : (k : Nat) = i) (hn : i < nL) (hq : (i, Value.int x) :: ls.filter (fun q => !(q.1 == i) && !(q.1 + 1 == i && q.2.category == 2)) = ls') (kk : GW p l e R s m args below meth c Q nL D A n ad cz ρ cells slots (pc + 1) ls' st) : GW p l e R s m args below meth c Q nL D A n ad cz ρ cells slots pc ls (.int x :: st) := fun H locs la hP hD hS hl => lv_istore_n X.1.1 X.1.2.1 hd hi hl hn hq (fun la' hl' => kk H locs la' hP hD hS hl')
theorem g_istore (X : gX p m c cc nL s args Ts own D cy A) {i : Nat} {x : Int32} (ls' : List (Nat × Value)) (hd : decode cc pc = .ok (.istore i, 2)) (hn : i < nL) (hq : (i, Value.int x) :: ls.filter (fun q => !(q.1 == i) && !(q.1 + 1 == i && q.2.category == 2)) = ls') (kk : GW p l e R s m args below meth c Q nL D A n ad cz ρ cells slots (pc + 2) ls' st) : GW p l e R s m args below meth c Q nL D A n ad cz ρ cells slots pc ls (.int x :: st) := fun H locs la hP hD hS hl => lv_istore X.1.1 X.1.2.1 hd hl hn hq (fun la' hl' => kk H locs la' hP hD hS hl')
theorem g_astore_n (X : gX p m c cc nL s args Ts own D cy A) {k : Fin 4} {i : Nat} {x : Nat} (ls' : List (Nat × Value)) (hd : decode cc pc = .ok (.astore_n k, 1)) (hi : (k : Nat) = i) (hn : i < nL) (hq : (i, Value.ref x) :: ls.filter (fun q => !(q.1 == i) && !(q.1 + 1 == i && q.2.category == 2)) = ls') (kk : GW p l e R s m args below meth c Q nL D A n ad cz ρ cells slots (pc + 1) ls' st) : GW p l e R s m args below meth c Q nL D A n ad cz ρ cells slots pc ls (.ref x :: st) := fun H locs la hP hD hS hl => lv_astore_n X.1.1 X.1.2.1 hd hi hl hn hq (fun la' hl' => kk H locs la' hP hD hS hl')
theorem g_astore (X : gX p m c cc nL s args Ts own D cy A) {i : Nat} {x : Nat} (ls' : List (Nat × Value)) (hd : decode cc pc = .ok (.astore i, 2)) (hn : i < nL) (hq : (i, Value.ref x) :: ls.filter (fun q => !(q.1 == i) && !(q.1 + 1 == i && q.2.category == 2)) = ls') (kk : GW p l e R s m args below meth c Q nL D A n ad cz ρ cells slots (pc + 2) ls' st) : GW p l e R s m args below meth c Q nL D A n ad cz ρ cells slots pc ls (.ref x :: st) := fun H locs la hP hD hS hl => lv_astore X.1.1 X.1.2.1 hd hl hn hq (fun la' hl' => kk H locs la' hP hD hS hl')
theorem g_lstore_n (X : gX p m c cc nL s args Ts own D cy A) {k : Fin 4} {i : Nat} {x : Int64} (ls' : List (Nat × Value)) (hd : decode cc pc = .ok (.lstore_n k, 1)) (hi : (k : Nat) = i) (hn : i + 1 < nL) (hq : (i, Value.long x) :: ls.filter (fun q => !(q.1 == i) && (!(q.1 == i + 1) && !(q.1 + 1 == i && q.2.category == 2))) = ls') (kk : GW p l e R s m args below meth c Q nL D A n ad cz ρ cells slots (pc + 1) ls' st) : GW p l e R s m args below meth c Q nL D A n ad cz ρ cells slots pc ls (.long x :: st) := fun H locs la hP hD hS hl => lv_lstore_n X.1.1 X.1.2.1 hd hi hl hn hq (fun la' hl' => kk H locs la' hP hD hS hl')
theorem g_lstore (X : gX p m c cc nL s args Ts own D cy A) {i : Nat} {x : Int64} (ls' : List (Nat × Value)) (hd : decode cc pc = .ok (.lstore i, 2)) (hn : i + 1 < nL) (hq : (i, Value.long x) :: ls.filter (fun q => !(q.1 == i) && (!(q.1 == i + 1) && !(q.1 + 1 == i && q.2.category == 2))) = ls') (kk : GW p l e R s m args below meth c Q nL D A n ad cz ρ cells slots (pc + 2) ls' st) : GW p l e R s m args below meth c Q nL D A n ad cz ρ cells slots pc ls (.long x :: st) := fun H locs la hP hD hS hl => lv_lstore X.1.1 X.1.2.1 hd hl hn hq (fun la' hl' => kk H locs la' hP hD hS hl')
theorem g_dstore_n (X : gX p m c cc nL s args Ts own D cy A) {k : Fin 4} {i : Nat} {x : UInt64} (ls' : List (Nat × Value)) (hd : decode cc pc = .ok (.dstore_n k, 1)) (hi : (k : Nat) = i) (hn : i + 1 < nL) (hq : (i, Value.double x) :: ls.filter (fun q => !(q.1 == i) && (!(q.1 == i + 1) && !(q.1 + 1 == i && q.2.category == 2))) = ls') (kk : GW p l e R s m args below meth c Q nL D A n ad cz ρ cells slots (pc + 1) ls' st) : GW p l e R s m args below meth c Q nL D A n ad cz ρ cells slots pc ls (.double x :: st) := fun H locs la hP hD hS hl => lv_dstore_n X.1.1 X.1.2.1 hd hi hl hn hq (fun la' hl' => kk H locs la' hP hD hS hl')
theorem g_dstore (X : gX p m c cc nL s args Ts own D cy A) {i : Nat} {x : UInt64} (ls' : List (Nat × Value)) (hd : decode cc pc = .ok (.dstore i, 2)) (hn : i + 1 < nL) (hq : (i, Value.double x) :: ls.filter (fun q => !(q.1 == i) && (!(q.1 == i + 1) && !(q.1 + 1 == i && q.2.category == 2))) = ls') (kk : GW p l e R s m args below meth c Q nL D A n ad cz ρ cells slots (pc + 2) ls' st) : GW p l e R s m args below meth c Q nL D A n ad cz ρ cells slots pc ls (.double x :: st) := fun H locs la hP hD hS hl => lv_dstore X.1.1 X.1.2.1 hd hl hn hq (fun la' hl' => kk H locs la' hP hD hS hl')
theorem g_iinc (X : gX p m c cc nL s args Ts own D cy A) {i : Nat} {z : Int} {x : Int32} (v : Int32) (ls' : List (Nat × Value)) (place : Nat) (hd : decode cc pc = .ok (.iinc i z, 3)) (hq : ls[place]? = some (i, .int x)) (hv : x + Int32.ofInt z = v) (hn : i < nL) (hf : (i, Value.int v) :: ls.filter (fun q => !(q.1 == i) && !(q.1 + 1 == i && q.2.category == 2)) = ls') (kk : GW p l e R s m args below meth c Q nL D A n ad cz ρ cells slots (pc + 3) ls' st) : GW p l e R s m args below meth c Q nL D A n ad cz ρ cells slots pc ls st := fun H locs la hP hD hS hl => lv_iinc X.1.1 X.1.2.1 hd hl hq hv hn hf (fun la' hl' => kk H locs la' hP hD hS hl')
theorem g_iadd (X : gX p m c cc nL s args Ts own D cy A) {x y : Int32} (hd : decode cc pc = .ok (.iadd, 1)) (kk : GW p l e R s m args below meth c Q nL D A n ad cz ρ cells slots (pc + 1) ls (.int (x + y) :: st)) : GW p l e R s m args below meth c Q nL D A n ad cz ρ cells slots pc ls (.int y :: .int x :: st) := fun H locs la hP hD hS hl => lv_iadd X.1.1 X.1.2.1 hd (kk H locs la hP hD hS hl)
theorem g_isub (X : gX p m c cc nL s args Ts own D cy A) {x y : Int32} (hd : decode cc pc = .ok (.isub, 1)) (kk : GW p l e R s m args below meth c Q nL D A n ad cz ρ cells slots (pc + 1) ls (.int (x - y) :: st)) : GW p l e R s m args below meth c Q nL D A n ad cz ρ cells slots pc ls (.int y :: .int x :: st) := fun H locs la hP hD hS hl => lv_isub X.1.1 X.1.2.1 hd (kk H locs la hP hD hS hl)
theorem g_imul (X : gX p m c cc nL s args Ts own D cy A) {x y : Int32} (hd : decode cc pc = .ok (.imul, 1)) (kk : GW p l e R s m args below meth c Q nL D A n ad cz ρ cells slots (pc + 1) ls (.int (x * y) :: st)) : GW p l e R s m args below meth c Q nL D A n ad cz ρ cells slots pc ls (.int y :: .int x :: st) := fun H locs la hP hD hS hl => lv_imul X.1.1 X.1.2.1 hd (kk H locs la hP hD hS hl)
theorem g_iand (X : gX p m c cc nL s args Ts own D cy A) {x y : Int32} (hd : decode cc pc = .ok (.iand, 1)) (kk : GW p l e R s m args below meth c Q nL D A n ad cz ρ cells slots (pc + 1) ls (.int (x &&& y) :: st)) : GW p l e R s m args below meth c Q nL D A n ad cz ρ cells slots pc ls (.int y :: .int x :: st) := fun H locs la hP hD hS hl => lv_iand X.1.1 X.1.2.1 hd (kk H locs la hP hD hS hl)
theorem g_ishr (X : gX p m c cc nL s args Ts own D cy A) {x y : Int32} (hd : decode cc pc = .ok (.ishr, 1)) (kk : GW p l e R s m args below meth c Q nL D A n ad cz ρ cells slots (pc + 1) ls (.int (x >>> (y &&& 31)) :: st)) : GW p l e R s m args below meth c Q nL D A n ad cz ρ cells slots pc ls (.int y :: .int x :: st) := fun H locs la hP hD hS hl => lv_ishr X.1.1 X.1.2.1 hd (kk H locs la hP hD hS hl)
theorem g_ixor (X : gX p m c cc nL s args Ts own D cy A) {x y : Int32} (hd : decode cc pc = .ok (.ixor, 1)) (kk : GW p l e R s m args below meth c Q nL D A n ad cz ρ cells slots (pc + 1) ls (.int (x ^^^ y) :: st)) : GW p l e R s m args below meth c Q nL D A n ad cz ρ cells slots pc ls (.int y :: .int x :: st) := fun H locs la hP hD hS hl => lv_ixor X.1.1 X.1.2.1 hd (kk H locs la hP hD hS hl)
theorem g_ladd (X : gX p m c cc nL s args Ts own D cy A) {x y : Int64} (hd : decode cc pc = .ok (.ladd, 1)) (kk : GW p l e R s m args below meth c Q nL D A n ad cz ρ cells slots (pc + 1) ls (.long (x + y) :: st)) : GW p l e R s m args below meth c Q nL D A n ad cz ρ cells slots pc ls (.long y :: .long x :: st) := fun H locs la hP hD hS hl => lv_ladd X.1.1 X.1.2.1 hd (kk H locs la hP hD hS hl)
theorem g_lmul (X : gX p m c cc nL s args Ts own D cy A) {x y : Int64} (hd : decode cc pc = .ok (.lmul, 1)) (kk : GW p l e R s m args below meth c Q nL D A n ad cz ρ cells slots (pc + 1) ls (.long (x * y) :: st)) : GW p l e R s m args below meth c Q nL D A n ad cz ρ cells slots pc ls (.long y :: .long x :: st) := fun H locs la hP hD hS hl => lv_lmul X.1.1 X.1.2.1 hd (kk H locs la hP hD hS hl)
theorem g_idiv (X : gX p m c cc nL s args Ts own D cy A) {x y : Int32} (hd : decode cc pc = .ok (.idiv, 1)) (hne : ¬ y = 0) (kk : GW p l e R s m args below meth c Q nL D A n ad cz ρ cells slots (pc + 1) ls (.int (x / y) :: st)) : GW p l e R s m args below meth c Q nL D A n ad cz ρ cells slots pc ls (.int y :: .int x :: st) := fun H locs la hP hD hS hl => lv_idiv X.1.1 X.1.2.1 hd hne (kk H locs la hP hD hS hl)
theorem g_irem (X : gX p m c cc nL s args Ts own D cy A) {x y : Int32} (hd : decode cc pc = .ok (.irem, 1)) (hne : ¬ y = 0) (kk : GW p l e R s m args below meth c Q nL D A n ad cz ρ cells slots (pc + 1) ls (.int (x - x / y * y) :: st)) : GW p l e R s m args below meth c Q nL D A n ad cz ρ cells slots pc ls (.int y :: .int x :: st) := fun H locs la hP hD hS hl => lv_irem X.1.1 X.1.2.1 hd hne (kk H locs la hP hD hS hl)
theorem g_ineg (X : gX p m c cc nL s args Ts own D cy A) {x : Int32} (hd : decode cc pc = .ok (.ineg, 1)) (kk : GW p l e R s m args below meth c Q nL D A n ad cz ρ cells slots (pc + 1) ls (.int (-x) :: st)) : GW p l e R s m args below meth c Q nL D A n ad cz ρ cells slots pc ls (.int x :: st) := fun H locs la hP hD hS hl => lv_ineg X.1.1 X.1.2.1 hd (kk H locs la hP hD hS hl)
theorem g_i2l (X : gX p m c cc nL s args Ts own D cy A) {x : Int32} (hd : decode cc pc = .ok (.i2l, 1)) (kk : GW p l e R s m args below meth c Q nL D A n ad cz ρ cells slots (pc + 1) ls (.long x.toInt64 :: st)) : GW p l e R s m args below meth c Q nL D A n ad cz ρ cells slots pc ls (.int x :: st) := fun H locs la hP hD hS hl => lv_i2l X.1.1 X.1.2.1 hd rfl (kk H locs la hP hD hS hl)
theorem g_i2d (X : gX p m c cc nL s args Ts own D cy A) {x : Int32} (hd : decode cc pc = .ok (.i2d, 1)) (kk : GW p l e R s m args below meth c Q nL D A n ad cz ρ cells slots (pc + 1) ls (.double (FP.i2d x) :: st)) : GW p l e R s m args below meth c Q nL D A n ad cz ρ cells slots pc ls (.int x :: st) := fun H locs la hP hD hS hl => lv_i2d X.1.1 X.1.2.1 hd (kk H locs la hP hD hS hl)
theorem g_lcmp (X : gX p m c cc nL s args Ts own D cy A) {x y : Int64} (hd : decode cc pc = .ok (.lcmp, 1)) (kk : GW p l e R s m args below meth c Q nL D A n ad cz ρ cells slots (pc + 1) ls (.int (lg_cmp x y) :: st)) : GW p l e R s m args below meth c Q nL D A n ad cz ρ cells slots pc ls (.long y :: .long x :: st) := fun H locs la hP hD hS hl => W.lcmp X.1.1 X.1.2.1 hd (kk H locs la hP hD hS hl)
theorem g_dcmp (X : gX p m c cc nL s args Ts own D cy A) {x y : UInt64} {op : CmpOp} (hd : decode cc pc = .ok (.dcmp op, 1)) (kk : GW p l e R s m args below meth c Q nL D A n ad cz ρ cells slots (pc + 1) ls (.int (Op.cmpValue (FP.dcmp x y) op) :: st)) : GW p l e R s m args below meth c Q nL D A n ad cz ρ cells slots pc ls (.double y :: .double x :: st) := fun H locs la hP hD hS hl => lv_dcmp X.1.1 X.1.2.1 hd (kk H locs la hP hD hS hl)
theorem g_ddiv (X : gX p m c cc nL s args Ts own D cy A) {x y : UInt64} (hd : decode cc pc = .ok (.ddiv, 1)) (hne : vf_n64 (FP.ddiv x y)) (kk : GW p l e R s m args below meth c Q nL D A n ad cz ρ cells slots (pc + 1) ls (.double (FP.ddiv x y) :: st)) : GW p l e R s m args below meth c Q nL D A n ad cz ρ cells slots pc ls (.double y :: .double x :: st) := fun H locs la hP hD hS hl => lv_ddiv X.1.1 X.1.2.1 hd hne (kk H locs la hP hD hS hl)
theorem g_dup (X : gX p m c cc nL s args Ts own D cy A) {va : Value} (hd : decode cc pc = .ok (.dup, 1)) (hva : va.category = 1) (kk : GW p l e R s m args below meth c Q nL D A n ad cz ρ cells slots (pc + 1) ls (va :: va :: st)) : GW p l e R s m args below meth c Q nL D A n ad cz ρ cells slots pc ls (va :: st) := fun H locs la hP hD hS hl => lv_dup X.1.1 X.1.2.1 hd hva (kk H locs la hP hD hS hl)
theorem g_pop (X : gX p m c cc nL s args Ts own D cy A) {va : Value} (hd : decode cc pc = .ok (.pop, 1)) (hva : va.category = 1) (kk : GW p l e R s m args below meth c Q nL D A n ad cz ρ cells slots (pc + 1) ls st) : GW p l e R s m args below meth c Q nL D A n ad cz ρ cells slots pc ls (va :: st) := fun H locs la hP hD hS hl => lv_pop X.1.1 X.1.2.1 hd hva (kk H locs la hP hD hS hl)
theorem g_dup_x1 (X : gX p m c cc nL s args Ts own D cy A) {va vb : Value} (hd : decode cc pc = .ok (.dup_x1, 1)) (hva : va.category = 1) (hvb : vb.category = 1) (kk : GW p l e R s m args below meth c Q nL D A n ad cz ρ cells slots (pc + 1) ls (va :: vb :: va :: st)) : GW p l e R s m args below meth c Q nL D A n ad cz ρ cells slots pc ls (va :: vb :: st) := fun H locs la hP hD hS hl => lv_dup_x1 X.1.1 X.1.2.1 hd hva hvb (kk H locs la hP hD hS hl)
theorem g_dup2 (X : gX p m c cc nL s args Ts own D cy A) {va vb : Value} (hd : decode cc pc = .ok (.dup2, 1)) (hva : va.category = 1) (hvb : vb.category = 1) (kk : GW p l e R s m args below meth c Q nL D A n ad cz ρ cells slots (pc + 1) ls (va :: vb :: va :: vb :: st)) : GW p l e R s m args below meth c Q nL D A n ad cz ρ cells slots pc ls (va :: vb :: st) := fun H locs la hP hD hS hl => lv_dup2_11 X.1.1 X.1.2.1 hd hva hvb (kk H locs la hP hD hS hl)
theorem g_if_eq (X : gX p m c cc nL s args Ts own D cy A) {x : Int32} {off : Int} (tgt : Nat) (hd : decode cc pc = .ok (.ifCond .eq off, 3)) (ht : (pc : Int) + off = (tgt : Int)) (kt : x = 0 → GW p l e R s m args below meth c Q nL D A n ad cz ρ cells slots tgt ls st) (kf : ¬ x = 0 → GW p l e R s m args below meth c Q nL D A n ad cz ρ cells slots (pc + 3) ls st) : GW p l e R s m args below meth c Q nL D A n ad cz ρ cells slots pc ls (.int x :: st) := fun H locs la hP hD hS hl => lv_if_eq X.1.1 X.1.2.1 hd ht (fun h => kt h H locs la hP hD hS hl) (fun h => kf h H locs la hP hD hS hl)
theorem g_icmp_eq (X : gX p m c cc nL s args Ts own D cy A) {x y : Int32} {off : Int} (tgt : Nat) (hd : decode cc pc = .ok (.if_icmp .eq off, 3)) (ht : (pc : Int) + off = (tgt : Int)) (kt : x = y → GW p l e R s m args below meth c Q nL D A n ad cz ρ cells slots tgt ls st) (kf : ¬ x = y → GW p l e R s m args below meth c Q nL D A n ad cz ρ cells slots (pc + 3) ls st) : GW p l e R s m args below meth c Q nL D A n ad cz ρ cells slots pc ls (.int y :: .int x :: st) := fun H locs la hP hD hS hl => lv_icmp_eq X.1.1 X.1.2.1 hd ht (fun h => kt h H locs la hP hD hS hl) (fun h => kf h H locs la hP hD hS hl)
theorem g_if_ne (X : gX p m c cc nL s args Ts own D cy A) {x : Int32} {off : Int} (tgt : Nat) (hd : decode cc pc = .ok (.ifCond .ne off, 3)) (ht : (pc : Int) + off = (tgt : Int)) (kt : ¬ x = 0 → GW p l e R s m args below meth c Q nL D A n ad cz ρ cells slots tgt ls st) (kf : x = 0 → GW p l e R s m args below meth c Q nL D A n ad cz ρ cells slots (pc + 3) ls st) : GW p l e R s m args below meth c Q nL D A n ad cz ρ cells slots pc ls (.int x :: st) := fun H locs la hP hD hS hl => lv_if_ne X.1.1 X.1.2.1 hd ht (fun h => kt h H locs la hP hD hS hl) (fun h => kf h H locs la hP hD hS hl)
theorem g_icmp_ne (X : gX p m c cc nL s args Ts own D cy A) {x y : Int32} {off : Int} (tgt : Nat) (hd : decode cc pc = .ok (.if_icmp .ne off, 3)) (ht : (pc : Int) + off = (tgt : Int)) (kt : ¬ x = y → GW p l e R s m args below meth c Q nL D A n ad cz ρ cells slots tgt ls st) (kf : x = y → GW p l e R s m args below meth c Q nL D A n ad cz ρ cells slots (pc + 3) ls st) : GW p l e R s m args below meth c Q nL D A n ad cz ρ cells slots pc ls (.int y :: .int x :: st) := fun H locs la hP hD hS hl => lv_icmp_ne X.1.1 X.1.2.1 hd ht (fun h => kt h H locs la hP hD hS hl) (fun h => kf h H locs la hP hD hS hl)
theorem g_if_lt (X : gX p m c cc nL s args Ts own D cy A) {x : Int32} {off : Int} (tgt : Nat) (hd : decode cc pc = .ok (.ifCond .lt off, 3)) (ht : (pc : Int) + off = (tgt : Int)) (kt : x < 0 → GW p l e R s m args below meth c Q nL D A n ad cz ρ cells slots tgt ls st) (kf : ¬ x < 0 → GW p l e R s m args below meth c Q nL D A n ad cz ρ cells slots (pc + 3) ls st) : GW p l e R s m args below meth c Q nL D A n ad cz ρ cells slots pc ls (.int x :: st) := fun H locs la hP hD hS hl => lv_if_lt X.1.1 X.1.2.1 hd ht (fun h => kt h H locs la hP hD hS hl) (fun h => kf h H locs la hP hD hS hl)
theorem g_icmp_lt (X : gX p m c cc nL s args Ts own D cy A) {x y : Int32} {off : Int} (tgt : Nat) (hd : decode cc pc = .ok (.if_icmp .lt off, 3)) (ht : (pc : Int) + off = (tgt : Int)) (kt : x < y → GW p l e R s m args below meth c Q nL D A n ad cz ρ cells slots tgt ls st) (kf : ¬ x < y → GW p l e R s m args below meth c Q nL D A n ad cz ρ cells slots (pc + 3) ls st) : GW p l e R s m args below meth c Q nL D A n ad cz ρ cells slots pc ls (.int y :: .int x :: st) := fun H locs la hP hD hS hl => lv_icmp_lt X.1.1 X.1.2.1 hd ht (fun h => kt h H locs la hP hD hS hl) (fun h => kf h H locs la hP hD hS hl)
theorem g_if_ge (X : gX p m c cc nL s args Ts own D cy A) {x : Int32} {off : Int} (tgt : Nat) (hd : decode cc pc = .ok (.ifCond .ge off, 3)) (ht : (pc : Int) + off = (tgt : Int)) (kt : 0 ≤ x → GW p l e R s m args below meth c Q nL D A n ad cz ρ cells slots tgt ls st) (kf : ¬ 0 ≤ x → GW p l e R s m args below meth c Q nL D A n ad cz ρ cells slots (pc + 3) ls st) : GW p l e R s m args below meth c Q nL D A n ad cz ρ cells slots pc ls (.int x :: st) := fun H locs la hP hD hS hl => lv_if_ge X.1.1 X.1.2.1 hd ht (fun h => kt h H locs la hP hD hS hl) (fun h => kf h H locs la hP hD hS hl)
theorem g_icmp_ge (X : gX p m c cc nL s args Ts own D cy A) {x y : Int32} {off : Int} (tgt : Nat) (hd : decode cc pc = .ok (.if_icmp .ge off, 3)) (ht : (pc : Int) + off = (tgt : Int)) (kt : y ≤ x → GW p l e R s m args below meth c Q nL D A n ad cz ρ cells slots tgt ls st) (kf : ¬ y ≤ x → GW p l e R s m args below meth c Q nL D A n ad cz ρ cells slots (pc + 3) ls st) : GW p l e R s m args below meth c Q nL D A n ad cz ρ cells slots pc ls (.int y :: .int x :: st) := fun H locs la hP hD hS hl => lv_icmp_ge X.1.1 X.1.2.1 hd ht (fun h => kt h H locs la hP hD hS hl) (fun h => kf h H locs la hP hD hS hl)
theorem g_if_gt (X : gX p m c cc nL s args Ts own D cy A) {x : Int32} {off : Int} (tgt : Nat) (hd : decode cc pc = .ok (.ifCond .gt off, 3)) (ht : (pc : Int) + off = (tgt : Int)) (kt : 0 < x → GW p l e R s m args below meth c Q nL D A n ad cz ρ cells slots tgt ls st) (kf : ¬ 0 < x → GW p l e R s m args below meth c Q nL D A n ad cz ρ cells slots (pc + 3) ls st) : GW p l e R s m args below meth c Q nL D A n ad cz ρ cells slots pc ls (.int x :: st) := fun H locs la hP hD hS hl => lv_if_gt X.1.1 X.1.2.1 hd ht (fun h => kt h H locs la hP hD hS hl) (fun h => kf h H locs la hP hD hS hl)
theorem g_icmp_gt (X : gX p m c cc nL s args Ts own D cy A) {x y : Int32} {off : Int} (tgt : Nat) (hd : decode cc pc = .ok (.if_icmp .gt off, 3)) (ht : (pc : Int) + off = (tgt : Int)) (kt : y < x → GW p l e R s m args below meth c Q nL D A n ad cz ρ cells slots tgt ls st) (kf : ¬ y < x → GW p l e R s m args below meth c Q nL D A n ad cz ρ cells slots (pc + 3) ls st) : GW p l e R s m args below meth c Q nL D A n ad cz ρ cells slots pc ls (.int y :: .int x :: st) := fun H locs la hP hD hS hl => lv_icmp_gt X.1.1 X.1.2.1 hd ht (fun h => kt h H locs la hP hD hS hl) (fun h => kf h H locs la hP hD hS hl)
theorem g_if_le (X : gX p m c cc nL s args Ts own D cy A) {x : Int32} {off : Int} (tgt : Nat) (hd : decode cc pc = .ok (.ifCond .le off, 3)) (ht : (pc : Int) + off = (tgt : Int)) (kt : x ≤ 0 → GW p l e R s m args below meth c Q nL D A n ad cz ρ cells slots tgt ls st) (kf : ¬ x ≤ 0 → GW p l e R s m args below meth c Q nL D A n ad cz ρ cells slots (pc + 3) ls st) : GW p l e R s m args below meth c Q nL D A n ad cz ρ cells slots pc ls (.int x :: st) := fun H locs la hP hD hS hl => lv_if_le X.1.1 X.1.2.1 hd ht (fun h => kt h H locs la hP hD hS hl) (fun h => kf h H locs la hP hD hS hl)
theorem g_icmp_le (X : gX p m c cc nL s args Ts own D cy A) {x y : Int32} {off : Int} (tgt : Nat) (hd : decode cc pc = .ok (.if_icmp .le off, 3)) (ht : (pc : Int) + off = (tgt : Int)) (kt : x ≤ y → GW p l e R s m args below meth c Q nL D A n ad cz ρ cells slots tgt ls st) (kf : ¬ x ≤ y → GW p l e R s m args below meth c Q nL D A n ad cz ρ cells slots (pc + 3) ls st) : GW p l e R s m args below meth c Q nL D A n ad cz ρ cells slots pc ls (.int y :: .int x :: st) := fun H locs la hP hD hS hl => lv_icmp_le X.1.1 X.1.2.1 hd ht (fun h => kt h H locs la hP hD hS hl) (fun h => kf h H locs la hP hD hS hl)
theorem g_goto (X : gX p m c cc nL s args Ts own D cy A) {off : Int} (tgt : Nat) (hd : decode cc pc = .ok (.goto off, 3)) (ht : (pc : Int) + off = (tgt : Int)) (kk : GW p l e R s m args below meth c Q nL D A n ad cz ρ cells slots tgt ls st) : GW p l e R s m args below meth c Q nL D A n ad cz ρ cells slots pc ls st := fun H locs la hP hD hS hl => lv_goto X.1.1 X.1.2.1 hd ht (kk H locs la hP hD hS hl)
theorem g_tableOut (X : gX p m c cc nL s args Ts own D cy A) {dflt lo hi : Int} {offs : Array Int} {len : Nat} {x : Int32} (tgt : Nat) (hd : decode cc pc = .ok (.tableswitch dflt lo hi offs, len)) (h : x.toInt < lo ∨ hi < x.toInt) (ht : (pc : Int) + dflt = (tgt : Int)) (kk : GW p l e R s m args below meth c Q nL D A n ad cz ρ cells slots tgt ls st) : GW p l e R s m args below meth c Q nL D A n ad cz ρ cells slots pc ls (.int x :: st) := fun H locs la hP hD hS hl => lv_tableOut X.1.1 X.1.2.1 hd h ht (kk H locs la hP hD hS hl)
theorem g_tableIn (X : gX p m c cc nL s args Ts own D cy A) {dflt lo hi : Int} {offs : Array Int} {len : Nat} {x : Int32} {off : Int} (tgt : Nat) (hd : decode cc pc = .ok (.tableswitch dflt lo hi offs, len)) (h1 : ¬ x.toInt < lo) (h2 : ¬ hi < x.toInt) (ho : offs[(x.toInt - lo).toNat]? = some off) (ht : (pc : Int) + off = (tgt : Int)) (kk : GW p l e R s m args below meth c Q nL D A n ad cz ρ cells slots tgt ls st) : GW p l e R s m args below meth c Q nL D A n ad cz ρ cells slots pc ls (.int x :: st) := fun H locs la hP hD hS hl => lv_tableIn X.1.1 X.1.2.1 hd h1 h2 ho ht (kk H locs la hP hD hS hl)
theorem g_ldc2 (X : gX p m c cc nL s args Ts own D cy A) {index : Nat} {v : Int64} (hw : Cond.constantLong own index v ∈ wAll) (hd : decode cc pc = .ok (.ldc2_w index, 3)) (kk : GW p l e R s m args below meth c Q nL D A n ad cz ρ cells slots (pc + 3) ls (.long v :: st)) : GW p l e R s m args below meth c Q nL D A n ad cz ρ cells slots pc ls st := fun H locs la hP hD hS hl => lv_ldc2 X.1.1 X.1.2.1 X.1.2.2.2.1 (X.1.2.2.2.2 _ (X.2.2.2.1 _ hw)) hd (kk H locs la hP hD hS hl)
theorem g_geti (X : gX p m c cc nL s args Ts own D cy A) {ref C : String} {T : u_T} {N ci index : Nat} (k : Nat) (hk : k < n) (j : Nat) (hj : j < N) (hin : ∀ w ∈ u_ws C T N, w ∈ wAll) (hc : vwCl[ci]? = some (C, T, N)) (hw : Cond.fieldLink own index ref (T j).2.1 (T j).2.2.1 ∈ wAll) (hsame : (T j).1 = ref) (hF : gFI cz k ci j) (hd : decode cc pc = .ok (.getfield index, 3)) (kk : GW p l e R s m args below meth c Q nL D A n ad cz ρ cells slots (pc + 3) ls (.int (ρ k j) :: st)) : GW p l e R s m args below meth c Q nL D A n ad cz ρ cells slots pc ls (.ref (ad k) :: st) := fun H locs la hP hD hS hl => by
  obtain ⟨fs, h1, h2, h3, h4⟩ := hF (ρ k)
  exact va_get X.1.1 X.1.2.1 X.1.2.2.2.2 (fun w h => X.2.2.2.1 w (hin w h)) X.1.2.2.2.1 X.2.1 hP k ((gWl_get hk).trans (by rw [h1])) hc j hj (X.1.2.2.2.2 _ (X.2.2.2.1 _ hw)) (fun _ h9 => hsame ▸ h9) h2 hd (kk H locs la hP hD hS hl)
theorem g_getr (X : gX p m c cc nL s args Ts own D cy A) {ref C : String} {T : u_T} {N ci index : Nat} (k : Nat) (hk : k < n) (j : Nat) (hj : j < N) (hin : ∀ w ∈ u_ws C T N, w ∈ wAll) (hc : vwCl[ci]? = some (C, T, N)) (hw : Cond.fieldLink own index ref (T j).2.1 (T j).2.2.1 ∈ wAll) (hsame : (T j).1 = ref) {k2 : Nat} (hF : gFR cz ad k ci j k2) (hd : decode cc pc = .ok (.getfield index, 3)) (kk : GW p l e R s m args below meth c Q nL D A n ad cz ρ cells slots (pc + 3) ls (.ref (ad k2) :: st)) : GW p l e R s m args below meth c Q nL D A n ad cz ρ cells slots pc ls (.ref (ad k) :: st) := fun H locs la hP hD hS hl => by
  obtain ⟨fs, h1, h2⟩ := hF (ρ k)
  exact va_get X.1.1 X.1.2.1 X.1.2.2.2.2 (fun w h => X.2.2.2.1 w (hin w h)) X.1.2.2.2.1 X.2.1 hP k ((gWl_get hk).trans (by rw [h1])) hc j hj (X.1.2.2.2.2 _ (X.2.2.2.1 _ hw)) (fun _ h9 => hsame ▸ h9) h2 hd (kk H locs la hP hD hS hl)
theorem g_puti (X : gX p m c cc nL s args Ts own D cy A) {ref C : String} {T : u_T} {N ci index : Nat} (k : Nat) (hk : k < n) (j : Nat) (hj : j < N) (hin : ∀ w ∈ u_ws C T N, w ∈ wAll) (hc : vwCl[ci]? = some (C, T, N)) (hw : Cond.fieldLink own index ref (T j).2.1 (T j).2.2.1 ∈ wAll) (hsame : (T j).1 = ref) {v : Int32} (ty0 : Nat → FieldType) (hty : ∀ k, k < N → parseFieldDescriptor (T k).2.2.1 = some (ty0 k)) (hnm : ∀ a, a < N → ∀ b, b < N → a ≠ b → (T a).2.1 ≠ (T b).2.1) (hfin : (T j).2.2.2 = false) (hpd : parseFieldDescriptor (T j).2.2.1 = some .int) (hF : gFI cz k ci j) (hd : decode cc pc = .ok (.putfield index, 3)) (kk : ∀ ρ1, ρ1 = up2 ρ k j v → GW p l e R s m args below meth c Q nL D A n ad cz ρ1 cells slots (pc + 3) ls st) : GW p l e R s m args below meth c Q nL D A n ad cz ρ cells slots pc ls (.int v :: .ref (ad k) :: st) := fun H locs la hP hD hS hl => by
  obtain ⟨fs, h1, h2, h3, h4⟩ := hF (ρ k)
  refine va_put X.1.1 X.1.2.1 X.1.2.2.2.2 (fun w h => X.2.2.2.1 w (hin w h)) ty0 hty hnm X.1.2.2.2.1 X.2.1 hP hD hS k ((gWl_get hk).trans (by rw [h1])) hc j hj (X.1.2.2.2.2 _ (X.2.2.2.1 _ hw)) (fun _ h9 => hsame ▸ h9) hfin hpd rfl rfl h3 hd (fun H1 locs1 hP1 hD1 hS1 => ?_)
  rw [gWl_set hk (h4 v)] at hP1 hD1
  exact kk _ rfl H1 locs1 la hP1 hD1 hS1 hl
theorem g_getiN (X : gX p m c cc nL s args Ts own D cy A) {ref C host : String} {T : u_T} {N ci index : Nat} (k : Nat) (hk : k < n) (j : Nat) (hj : j < N) (hin : ∀ w ∈ u_ws C T N, w ∈ wAll) (hc : vwCl[ci]? = some (C, T, N)) (hw : Cond.fieldLinkNest own index ref (T j).2.1 (T j).2.2.1 host ∈ gNsw) (hsame : (T j).1 = ref) (hF : gFI cz k ci j) (hd : decode cc pc = .ok (.getfield index, 3)) (kk : GW p l e R s m args below meth c Q nL D A n ad cz ρ cells slots (pc + 3) ls (.int (ρ k j) :: st)) : GW p l e R s m args below meth c Q nL D A n ad cz ρ cells slots pc ls (.ref (ad k) :: st) := fun H locs la hP hD hS hl => by
  obtain ⟨fs, h1, h2, h3, h4⟩ := hF (ρ k)
  exact va_getN X.1.1 X.1.2.1 X.1.2.2.2.2 (fun w h => X.2.2.2.1 w (hin w h)) X.1.2.2.2.1 X.2.1 hP k ((gWl_get hk).trans (by rw [h1])) hc j hj (va_Nw.use rfl (X.2.2.2.2 _ hw)) (fun _ h9 => hsame ▸ h9) h2 hd (kk H locs la hP hD hS hl)
theorem g_getrN (X : gX p m c cc nL s args Ts own D cy A) {ref C host : String} {T : u_T} {N ci index : Nat} (k : Nat) (hk : k < n) (j : Nat) (hj : j < N) (hin : ∀ w ∈ u_ws C T N, w ∈ wAll) (hc : vwCl[ci]? = some (C, T, N)) (hw : Cond.fieldLinkNest own index ref (T j).2.1 (T j).2.2.1 host ∈ gNsw) (hsame : (T j).1 = ref) {k2 : Nat} (hF : gFR cz ad k ci j k2) (hd : decode cc pc = .ok (.getfield index, 3)) (kk : GW p l e R s m args below meth c Q nL D A n ad cz ρ cells slots (pc + 3) ls (.ref (ad k2) :: st)) : GW p l e R s m args below meth c Q nL D A n ad cz ρ cells slots pc ls (.ref (ad k) :: st) := fun H locs la hP hD hS hl => by
  obtain ⟨fs, h1, h2⟩ := hF (ρ k)
  exact va_getN X.1.1 X.1.2.1 X.1.2.2.2.2 (fun w h => X.2.2.2.1 w (hin w h)) X.1.2.2.2.1 X.2.1 hP k ((gWl_get hk).trans (by rw [h1])) hc j hj (va_Nw.use rfl (X.2.2.2.2 _ hw)) (fun _ h9 => hsame ▸ h9) h2 hd (kk H locs la hP hD hS hl)
theorem g_iald (X : gX p m c cc nL s args Ts own D cy A) {len : Nat} {i : Int32} (k : Nat) (hk : k < n) (hF : gAI cz (cy 0) k len) (hin : vp_in i len) (hd : decode cc pc = .ok (.iaload, 1)) (kk : GW p l e R s m args below meth c Q nL D A n ad cz ρ cells slots (pc + 1) ls (.int (ρ k i.toNatClampNeg) :: st)) : GW p l e R s m args below meth c Q nL D A n ad cz ρ cells slots pc ls (.int i :: .ref (ad k) :: st) := fun H locs la hP hD hS hl => va_iald X.1.1 X.1.2.1 X.2.1 hP k 0 ((gWl_get hk).trans (by rw [hF (ρ k)])) rfl hin hd (kk H locs la hP hD hS hl)
theorem g_zald (X : gX p m c cc nL s args Ts own D cy A) {len : Nat} {i : Int32} (k : Nat) (hk : k < n) (hF : gAI cz (cy 1) k len) (hin : vp_in i len) (hd : decode cc pc = .ok (.baload, 1)) (kk : GW p l e R s m args below meth c Q nL D A n ad cz ρ cells slots (pc + 1) ls (.int (ρ k i.toNatClampNeg) :: st)) : GW p l e R s m args below meth c Q nL D A n ad cz ρ cells slots pc ls (.int i :: .ref (ad k) :: st) := fun H locs la hP hD hS hl => va_zald X.1.1 X.1.2.1 X.2.1 hP k 1 ((gWl_get hk).trans (by rw [hF (ρ k)])) rfl hin hd (kk H locs la hP hD hS hl)
theorem g_iast (X : gX p m c cc nL s args Ts own D cy A) {len : Nat} {i x : Int32} (k : Nat) (hk : k < n) (hF : gAI cz (cy 0) k len) (hin : vp_in i len) (hd : decode cc pc = .ok (.iastore, 1)) (kk : ∀ ρ1, ρ1 = up2 ρ k i.toNatClampNeg x → GW p l e R s m args below meth c Q nL D A n ad cz ρ1 cells slots (pc + 1) ls st) : GW p l e R s m args below meth c Q nL D A n ad cz ρ cells slots pc ls (.int x :: .int i :: .ref (ad k) :: st) := fun H locs la hP hD hS hl => by
  refine va_iast X.1.1 X.1.2.1 X.2.1 hP hD hS k 0 ((gWl_get hk).trans (by rw [hF (ρ k)])) rfl hin hd (fun H1 locs1 hP1 hD1 hS1 => ?_)
  rw [gWl_set hk (hF _).symm] at hP1 hD1
  exact kk _ rfl H1 locs1 la hP1 hD1 hS1 hl
theorem g_zast (X : gX p m c cc nL s args Ts own D cy A) {len : Nat} {i x : Int32} (k : Nat) (hk : k < n) (hF : gAI cz (cy 1) k len) (hx : vp_nar .boolean x = x) (hin : vp_in i len) (hd : decode cc pc = .ok (.bastore, 1)) (kk : ∀ ρ1, ρ1 = up2 ρ k i.toNatClampNeg x → GW p l e R s m args below meth c Q nL D A n ad cz ρ1 cells slots (pc + 1) ls st) : GW p l e R s m args below meth c Q nL D A n ad cz ρ cells slots pc ls (.int x :: .int i :: .ref (ad k) :: st) := fun H locs la hP hD hS hl => by
  refine va_zast X.1.1 X.1.2.1 X.2.1 hP hD hS k 1 ((gWl_get hk).trans (by rw [hF (ρ k)])) rfl hin hd (fun H1 locs1 hP1 hD1 hS1 => ?_)
  rw [hx, gWl_set hk (hF _).symm] at hP1 hD1
  exact kk _ rfl H1 locs1 la hP1 hD1 hS1 hl
theorem g_aald (X : gX p m c cc nL s args Ts own D cy A) {len t0 : Nat} {C : String} {tgt : Nat → Nat} {i : Int32} (k : Nat) (hk : k < n) {cA : ClassId} (hF : gAR cz ad cA k len tgt) (ht : (gT cy)[t0]? = some (cA, .object C)) (hin : vp_in i len) (hd : decode cc pc = .ok (.aaload, 1)) (kk : GW p l e R s m args below meth c Q nL D A n ad cz ρ cells slots (pc + 1) ls (.ref (ad (tgt i.toNatClampNeg)) :: st)) : GW p l e R s m args below meth c Q nL D A n ad cz ρ cells slots pc ls (.int i :: .ref (ad k) :: st) := fun H locs la hP hD hS hl => by
  obtain ⟨f, h1, h2⟩ := hF (ρ k)
  refine va_aldq X.1.1 X.1.2.1 X.2.1 hP k t0 ((gWl_get hk).trans (by rw [h1])) ht hin hd ?_
  rw [h2 _ (Nat.not_le.mp fun q => hin (Or.inr q))]
  exact kk H locs la hP hD hS hl
theorem g_lald (X : gX p m c cc nL s args Ts own D cy A) {len : Nat} {i : Int32} (k : Nat) (hk : k < n) (hF : gAL cz (cy 4) k len) (hin : vp_in i len) (hd : decode cc pc = .ok (.laload, 1)) (kk : GW p l e R s m args below meth c Q nL D A n ad cz ρ cells slots (pc + 1) ls (.long (ρ k i.toNatClampNeg).toInt64 :: st)) : GW p l e R s m args below meth c Q nL D A n ad cz ρ cells slots pc ls (.int i :: .ref (ad k) :: st) := fun H locs la hP hD hS hl => va_lald X.1.1 X.1.2.1 X.2.1 hP k 4 ((gWl_get hk).trans (by rw [hF (ρ k)])) rfl hin hd (kk H locs la hP hD hS hl)
theorem g_last (X : gX p m c cc nL s args Ts own D cy A) {len : Nat} {i x : Int32} (k : Nat) (hk : k < n) (hF : gAL cz (cy 4) k len) (hin : vp_in i len) (hd : decode cc pc = .ok (.lastore, 1)) (kk : ∀ ρ1, ρ1 = up2 ρ k i.toNatClampNeg x → GW p l e R s m args below meth c Q nL D A n ad cz ρ1 cells slots (pc + 1) ls st) : GW p l e R s m args below meth c Q nL D A n ad cz ρ cells slots pc ls (.long x.toInt64 :: .int i :: .ref (ad k) :: st) := fun H locs la hP hD hS hl => by
  refine va_last X.1.1 X.1.2.1 X.2.1 hP hD hS k 4 ((gWl_get hk).trans (by rw [hF (ρ k)])) rfl hin hd (fun H1 locs1 hP1 hD1 hS1 => ?_)
  have e9 : (.inl (cy 4, len, .inr (.inl (vp_updL (fun j => (ρ k j).toInt64) i.toNatClampNeg x.toInt64))) : va_E) = cz k (upd (ρ k) i.toNatClampNeg x) := by
    rw [hF (upd (ρ k) i.toNatClampNeg x)]
    have e8 : vp_updL (fun j => (ρ k j).toInt64) i.toNatClampNeg x.toInt64 = fun j => (upd (ρ k) i.toNatClampNeg x j).toInt64 := by
      funext q
      simp only [vp_updL, upd]
      split <;> rfl
    rw [e8]
  rw [gWl_set hk e9] at hP1 hD1
  exact kk _ rfl H1 locs1 la hP1 hD1 hS1 hl
theorem g_widen {k9 n9 : Nat} (h1 : cells ≤ k9) (h2 : slots ≤ n9) (kk : GW p l e R s m args below meth c Q nL D A n ad cz ρ k9 n9 pc ls st) : GW p l e R s m args below meth c Q nL D A n ad cz ρ cells slots pc ls st := fun H locs la hP hD hS hl => W.widen h1 h2 (kk H locs la hP hD hS hl)
theorem g_ls (ks : List Nat) (h : lv_pick ls ks = ls') (kk : GW p l e R s m args below meth c Q nL D A n ad cz ρ cells slots pc ls' st) : GW p l e R s m args below meth c Q nL D A n ad cz ρ cells slots pc ls st := fun H locs la hP hD hS hl => kk H locs la hP hD hS (lv_sub hl ks h)
theorem g_congr {ρ1 : Nat → Nat → Int32} (h : ∀ k, k < n → cz k (ρ k) = cz k (ρ1 k)) (kk : GW p l e R s m args below meth c Q nL D A n ad cz ρ1 cells slots pc ls st) : GW p l e R s m args below meth c Q nL D A n ad cz ρ cells slots pc ls st := fun H locs la hP hD hS hl => kk H locs la (gP_congr h hP) (gD_of (gD_inj hD) (fun _ hk => gD_in hD hk)) hS hl
theorem g_topi {x : Int32} (kk : ∀ y : Int32, y = x → GW p l e R s m args below meth c Q nL D A n ad cz ρ cells slots pc ls (.int y :: st)) : GW p l e R s m args below meth c Q nL D A n ad cz ρ cells slots pc ls (.int x :: st) := kk x rfl
theorem g_mmin (X : gX p m c cc nL s args Ts own D cy A) {x y : Int32} {index : Nat} (hw1 : Cond.methodLink own index Lib.Math.min.name ∈ wAll) (hw2 : Cond.static Lib.Math.min.name ∈ wAll) (hw3 : Cond.initialized "java/lang/Math" ∈ wAll) (hw4 : Cond.code Lib.Math.min.name Lib.Math.min.code 2 (some .int) ∈ wAll) (hr : 1 ≤ R.frames ∧ (st.map fun v => v.category).sum + 13 ≤ R.locals ∧ cells ≤ R.cells ∧ slots ≤ R.slots) (hd : decode cc pc = .ok (.invokestatic index, 3)) (kk : GW p l e R s m args below meth c Q nL D A n ad cz ρ cells slots (pc + 3) ls (.int (if y < x then y else x) :: st)) : GW p l e R s m args below meth c Q nL D A n ad cz ρ cells slots pc ls (.int y :: .int x :: st) := fun H locs la hP hD hS hl => va_mmin X.1.1 X.1.2.1 (X.1.2.2.1.trans hl.1.symm) X.1.2.2.2.1 (X.1.2.2.2.2 _ (X.2.2.2.1 _ hw1)) (X.1.2.2.2.2 _ (X.2.2.2.1 _ hw2)) (X.1.2.2.2.2 _ (X.2.2.2.1 _ hw3)) (X.1.2.2.2.2 _ (X.2.2.2.1 _ hw4)) hr.1 hr.2.1 hr.2.2.1 hr.2.2.2 hd (kk H locs la hP hD hS hl)
theorem g_mmax (X : gX p m c cc nL s args Ts own D cy A) {x y : Int32} {index : Nat} (hw1 : Cond.methodLink own index Lib.Math.max.name ∈ wAll) (hw2 : Cond.static Lib.Math.max.name ∈ wAll) (hw3 : Cond.initialized "java/lang/Math" ∈ wAll) (hw4 : Cond.code Lib.Math.max.name Lib.Math.max.code 2 (some .int) ∈ wAll) (hr : 1 ≤ R.frames ∧ (st.map fun v => v.category).sum + 13 ≤ R.locals ∧ cells ≤ R.cells ∧ slots ≤ R.slots) (hd : decode cc pc = .ok (.invokestatic index, 3)) (kk : GW p l e R s m args below meth c Q nL D A n ad cz ρ cells slots (pc + 3) ls (.int (if x < y then y else x) :: st)) : GW p l e R s m args below meth c Q nL D A n ad cz ρ cells slots pc ls (.int y :: .int x :: st) := fun H locs la hP hD hS hl => va_mmax X.1.1 X.1.2.1 (X.1.2.2.1.trans hl.1.symm) X.1.2.2.2.1 (X.1.2.2.2.2 _ (X.2.2.2.1 _ hw1)) (X.1.2.2.2.2 _ (X.2.2.2.1 _ hw2)) (X.1.2.2.2.2 _ (X.2.2.2.1 _ hw3)) (X.1.2.2.2.2 _ (X.2.2.2.1 _ hw4)) hr.1 hr.2.1 hr.2.2.1 hr.2.2.2 hd (kk H locs la hP hD hS hl)
theorem g_mabs (X : gX p m c cc nL s args Ts own D cy A) {x : Int32} {index : Nat} (hw1 : Cond.methodLink own index Lib.Math.abs.name ∈ wAll) (hw2 : Cond.static Lib.Math.abs.name ∈ wAll) (hw3 : Cond.initialized "java/lang/Math" ∈ wAll) (hw4 : Cond.code Lib.Math.abs.name Lib.Math.abs.code 1 (some .int) ∈ wAll) (hr : 1 ≤ R.frames ∧ (st.map fun v => v.category).sum + 13 ≤ R.locals ∧ cells ≤ R.cells ∧ slots ≤ R.slots) (hd : decode cc pc = .ok (.invokestatic index, 3)) (kk : GW p l e R s m args below meth c Q nL D A n ad cz ρ cells slots (pc + 3) ls (.int (if 0 ≤ x then x else 0 - x) :: st)) : GW p l e R s m args below meth c Q nL D A n ad cz ρ cells slots pc ls (.int x :: st) := fun H locs la hP hD hS hl => va_mabs X.1.1 X.1.2.1 (X.1.2.2.1.trans hl.1.symm) X.1.2.2.2.1 (X.1.2.2.2.2 _ (X.2.2.2.1 _ hw1)) (X.1.2.2.2.2 _ (X.2.2.2.1 _ hw2)) (X.1.2.2.2.2 _ (X.2.2.2.1 _ hw3)) (X.1.2.2.2.2 _ (X.2.2.2.1 _ hw4)) hr.1 hr.2.1 hr.2.2.1 hr.2.2.2 hd (kk H locs la hP hD hS hl)
end GWS
end
section
/-! Contracts over a world by numbers -/
/-- a link to a method, with all that a call of it asks of the tables -/
def gLkV (own : String) (index : Nat) (C : String) (y : MethodName) (b : ByteArray) (nL : Nat) (ret : Option FieldType) (nA : Nat) : Prop := Cond.methodLink own index y ∈ wAll ∧ Cond.instanceMethod y ∈ wAll ∧ Cond.selects C y y ∈ wAll ∧ Cond.initialized C ∈ wAll ∧ Cond.code y b nL ret ∈ wAll ∧ y.cls = C ∧ y.cls ≠ "java/lang/invoke/MethodHandle" ∧ y.cls ≠ "java/lang/invoke/VarHandle" ∧ (parseMethodDescriptor y.desc).map (fun d => d.parameters.length) = some nA
def gLkS (own : String) (index : Nat) (y : MethodName) (b : ByteArray) (nL : Nat) (ret : Option FieldType) (nA : Nat) : Prop := Cond.methodLink own index y ∈ wAll ∧ Cond.static y ∈ wAll ∧ Cond.initialized y.cls ∈ wAll ∧ Cond.code y b nL ret ∈ wAll ∧ y.cls ≠ "java/lang/invoke/MethodHandle" ∧ y.cls ≠ "java/lang/invoke/VarHandle" ∧ (parseMethodDescriptor y.desc).map (fun d => d.parameters.length) = some nA
theorem gGood {Ts : List Cond} {y : MethodName} {b : ByteArray} {nL : Nat} {ret : Option FieldType} (hT : ∀ w ∈ wAll, w ∈ Ts) (hc : Cond.code y b nL ret ∈ wAll) : GoodIn Ts (Cond.code y b nL ret :: wAll) := fun w hw => by
  rcases List.mem_cons.mp hw with rfl | h
  · exact ⟨hT _ hc, good_of_word (wAll_good _ hc)⟩
  · exact ⟨hT _ h, good_of_word (wAll_good _ h)⟩
theorem gCwV {R : Room} {s : State} {args : Array Value} {own C : String} {index maxL mc ms n : Nat} {y : MethodName} {bytes : ByteArray} {ret : Option FieldType} {Ts : List Cond} {rm : Room} (ht : ∀ w ∈ Ts, w.before args s = true) (hT : ∀ w ∈ wAll, w ∈ Ts) (h : gLkV own index C y bytes maxL ret n) (hR : rm.cells = mc ∧ rm.slots = ms ∧ rm.frames + 1 ≤ R.frames ∧ 8 + (maxL + 11) + rm.locals ≤ R.locals) : CallW R s args own C index y bytes maxL ret (Cond.code y bytes maxL ret :: wAll) rm mc ms n := by
  obtain ⟨h1, h2, h3, h4, h5, h6⟩ := h
  refine cwV n ht (fun w hw => ?_) rfl hR.1 hR.2.1 h6 hR.2.2
  rcases List.mem_append.mp hw with hw | hw
  · have hm : w ∈ wAll := by
      simp only [List.mem_cons, List.not_mem_nil, or_false] at hw
      rcases hw with rfl | rfl | rfl | rfl
      · exact h1
      · exact h2
      · exact h3
      · exact h4
    exact ⟨hT _ hm, good_of_word (wAll_good _ hm)⟩
  · exact gGood hT h5 w hw
theorem gCwS {R : Room} {s : State} {args : Array Value} {own : String} {index maxL mc ms n : Nat} {y : MethodName} {bytes : ByteArray} {ret : Option FieldType} {Ts : List Cond} {rm : Room} (ht : ∀ w ∈ Ts, w.before args s = true) (hT : ∀ w ∈ wAll, w ∈ Ts) (h : gLkS own index y bytes maxL ret n) (hR : rm.cells = mc ∧ rm.slots = ms ∧ rm.frames + 1 ≤ R.frames ∧ 8 + (maxL + 11) + rm.locals ≤ R.locals) : CallB R s args own index y bytes maxL ret (Cond.code y bytes maxL ret :: wAll) rm mc ms n ∧ (Cond.static y).before args s = true := by
  obtain ⟨h1, h3, h4, h5, h6⟩ := h
  exact ⟨callB_of n ht (gGood hT h5) rfl hR.1 hR.2.1 (ht _ (hT _ h4)) (ht _ (hT _ h1)) h6 hR.2.2, ht _ (hT _ h3)⟩
theorem gCwN {R : Room} {s : State} {args : Array Value} {own host : String} {index maxL mc ms n : Nat} {y : MethodName} {bytes : ByteArray} {ret : Option FieldType} {Ts : List Cond} {rm : Room} (ht : ∀ w ∈ Ts, w.before args s = true) (hT : ∀ w ∈ wAll, w ∈ Ts) (hN : gNst s) (hl : Cond.methodLinkNest own index y host ∈ gNsw) (h4 : Cond.initialized y.cls ∈ wAll) (h5 : Cond.code y bytes maxL ret ∈ wAll) (h6 : y.cls ≠ "java/lang/invoke/MethodHandle" ∧ y.cls ≠ "java/lang/invoke/VarHandle" ∧ (parseMethodDescriptor y.desc).map (fun d => d.parameters.length) = some n) (hR : rm.cells = mc ∧ rm.slots = ms ∧ rm.frames + 1 ≤ R.frames ∧ 8 + (maxL + 11) + rm.locals ≤ R.locals) : va_CN R s args own index y host bytes maxL ret (Cond.code y bytes maxL ret :: wAll) rm mc ms n := va_cnB n ht (gGood hT h5) rfl hR.1 hR.2.1 (hN _ hl) (ht _ (hT _ h4)) h6 hR.2.2
def gPc (D : va_G) (cy : Nat → ClassId) (n : Nat) (ad : Nat → Nat) (cz : Nat → (Nat → Int32) → va_E) (ρ : Nat → Nat → Int32) (argv : List Value) (sz : Nat) : Array Value → State → Prop := va_Pc argv (fun U => U.heap.size = sz ∧ va_P D vwCl (gWl n ad cz ρ) U.heap ∧ va_K D vwCl (gT cy) U ∧ gInj n ad ∧ gNst U)
/-- the strings that the class throws with -/
def gStr : List (String × Nat × String) := [("StreetOrgans", 46, "there are 6 tunes"), ("StreetOrgans", 61, "the tune has 16 notes"), ("StreetOrgans", 69, "no such place"), ("StreetOrgans", 77, "listeners is not 0 to 90"), ("StreetOrgans", 86, "there are 8 streets"), ("StreetOrgans", 97, "weekday is not 0 to 6"), ("StreetOrgans", 99, "damp is not 0 to 5"), ("StreetOrgans", 101, "the tune has no notes"), ("StreetOrgans", 131, "by is not -120 to 120"), ("StreetOrgans", 140, "there are less than 4 coins"), ("StreetOrgans", 151, "what is not 0 to 4"), ("StreetOrgans", 161, "what is not 0 to 8"), ("StreetOrgans", 179, "what is not 5 to 7"), ("StreetOrgans", 200, "no such tune"), ("StreetOrgans", 202, "no such street"), ("StreetOrgans", 204, "pipe is not 0 to 11"), ("StreetOrgans", 206, "permits is not a set of weekdays"), ("StreetOrgans", 208, "nights is not 1 to 60")]
/-- the words of a throw that aren't kept of themselves -/
def gEnv (U : State) (A : Nat → Prop) : Prop := vx_Zq Bundle.tN "UNASSIGNED_STACK" Bundle.steD A U U.heap ∧ vx_Zq Bundle.tN "SUPPRESSED_SENTINEL" Bundle.listD A U U.heap ∧ ∀ q ∈ gStr, ∃ a, vk_R q.1 q.2.1 q.2.2 a U
def gPx (D : va_G) (cy : Nat → ClassId) (n : Nat) (ad : Nat → Nat) (cz : Nat → (Nat → Int32) → va_E) (ρ : Nat → Nat → Int32) (argv : List Value) (sz : Nat) : Array Value → State → Prop := va_Pc argv (fun U => U.heap.size = sz ∧ va_P D vwCl (gWl n ad cz ρ) U.heap ∧ va_K D vwCl (gT cy) U ∧ gInj n ad ∧ gNst U ∧ gEnv U (gA n ad sz))
theorem gPc_blind {D : va_G} {cy : Nat → ClassId} {n : Nat} {ad : Nat → Nat} {cz : Nat → (Nat → Int32) → va_E} {ρ : Nat → Nat → Int32} {argv : List Value} {sz : Nat} : FrameBlind (gPc D cy n ad cz ρ argv sz) := fun a U g mk q => by
  obtain ⟨q0, q1, q2, q3, q4, q6⟩ := q
  exact ⟨q0, q1, q2, va_K.moved (u := U) (U := U.calling g mk a) (Vm.Alike.refl U.vm) q3, q4, gNst_same (u := U) (U := U.calling g mk a) rfl q6⟩
theorem gEnv_same {U V : State} {A : Nat → Prop} (hv : V.vm = U.vm) (hh : V.heap = U.heap) (h : gEnv U A) : gEnv V A := by
  obtain ⟨h1, h2, h3⟩ := h
  have hA : U.vm.Alike V.vm := by rw [hv]; exact Vm.Alike.refl U.vm
  refine ⟨by rw [hh]; exact vx_Zq.moved hA h1, by rw [hh]; exact vx_Zq.moved hA h2, fun q hq => ?_⟩
  obtain ⟨a, ha⟩ := h3 q hq
  exact ⟨a, vk_R.same hv ha⟩
theorem gPx_blind {D : va_G} {cy : Nat → ClassId} {n : Nat} {ad : Nat → Nat} {cz : Nat → (Nat → Int32) → va_E} {ρ : Nat → Nat → Int32} {argv : List Value} {sz : Nat} : FrameBlind (gPx D cy n ad cz ρ argv sz) := fun a U g mk q => by
  obtain ⟨q0, q1, q2, q3, q4, q6, q5⟩ := q
  exact ⟨q0, q1, q2, va_K.moved (u := U) (U := U.calling g mk a) (Vm.Alike.refl U.vm) q3, q4, gNst_same (u := U) (U := U.calling g mk a) rfl q6, gEnv_same (U := U) (V := U.calling g mk a) rfl rfl q5⟩
/-- the environment at a call -/
theorem gEnv_at {s U : State} {A B : Nat → Prop} {H : Heap} {locs : List Loc} (h : gEnv s A) (hW : s.WarmedH U.vm) (hU : U.heap = H) (hS : va_S A s.heap H locs) (hAB : ∀ q, B q → A q) : gEnv U B := by
  obtain ⟨h1, h2, h3⟩ := h
  refine ⟨?_, ?_, fun q hq => ?_⟩
  · rw [hU]; exact ((vx_Zq.moved hW.alike h1).kept hS.2.1).narrow hAB
  · rw [hU]; exact ((vx_Zq.moved hW.alike h2).kept hS.2.1).narrow hAB
  · obtain ⟨a, ha⟩ := h3 q hq
    exact ⟨a, vk_R.warm hW ha⟩
theorem gA_sub {n off n' : Nat} {ad ad' : Nat → Nat} {cz cz' : Nat → (Nat → Int32) → va_E} {ρ : Nat → Nat → Int32} {A : Nat → Prop} {H0 H : Heap} {locs : List Loc} (hs : gSub n ad cz off n' ad' cz') (hD : va_D A (gWl n ad cz ρ)) (hS : va_S A H0 H locs) (hA : ∀ q, H0.size ≤ q → A q) : ∀ q, gA n' ad' H.size q → A q := by
  rintro q (⟨j, hj, rfl⟩ | h)
  · rw [(hs.2 j hj).1]
    exact gD_in hD (by have := hs.1; omega)
  · exact hA q (Nat.le_trans hS.1 h)
abbrev gB (D : va_G) (n : Nat) (ad : Nat → Nat) (cz : Nat → (Nat → Int32) → va_E) : (Nat → Nat → Int32) → State → Prop := fun ρ1 t => va_P D vwCl (gWl n ad cz ρ1) t.heap
abbrev gXC (D : va_G) (n : Nat) (ad : Nat → Nat) (cz : Nat → (Nat → Int32) → va_E) (ρ : Nat → Nat → Int32) (xp : String → Prop) (A : Nat → Prop) : String → State → State → Prop := vx_X (fun _ : Unit => True) (fun E _ t => xp E ∧ va_P D vwCl (gWl n ad cz ρ) t.heap) A
def gMI (l : Launch) (y : MethodName) (b : ByteArray) (nL : Nat) (ret : Option FieldType) (rm : Room) (D : va_G) (cy : Nat → ClassId) (n : Nat) (ad : Nat → Nat) (cz : Nat → (Nat → Int32) → va_E) (argv : List Value) (ρ : Nat → Nat → Int32) (post : Int32 → (Nat → Nat → Int32) → Prop) (mc ms : Nat) : Prop := ∀ sz : Nat, Met l y (Cond.code y b nL ret :: wAll) rm (gPc D cy n ad cz ρ argv sz) (va_Qi post (gB D n ad cz) (gA n ad sz)) mc ms (gA n ad sz)
def gMV (l : Launch) (y : MethodName) (b : ByteArray) (nL : Nat) (ret : Option FieldType) (rm : Room) (D : va_G) (cy : Nat → ClassId) (n : Nat) (ad : Nat → Nat) (cz : Nat → (Nat → Int32) → va_E) (argv : List Value) (ρ : Nat → Nat → Int32) (post : (Nat → Nat → Int32) → Prop) (mc ms : Nat) : Prop := ∀ sz : Nat, Met l y (Cond.code y b nL ret :: wAll) rm (gPc D cy n ad cz ρ argv sz) (va_Qv post (gB D n ad cz) (gA n ad sz)) mc ms (gA n ad sz)
def gML (l : Launch) (y : MethodName) (b : ByteArray) (nL : Nat) (ret : Option FieldType) (rm : Room) (D : va_G) (cy : Nat → ClassId) (n : Nat) (ad : Nat → Nat) (cz : Nat → (Nat → Int32) → va_E) (argv : List Value) (ρ : Nat → Nat → Int32) (post : Int64 → (Nat → Nat → Int32) → Prop) (mc ms : Nat) : Prop := ∀ sz : Nat, Met l y (Cond.code y b nL ret :: wAll) rm (gPc D cy n ad cz ρ argv sz) (va_Ql post (gB D n ad cz) (gA n ad sz)) mc ms (gA n ad sz)
def gMD (l : Launch) (y : MethodName) (b : ByteArray) (nL : Nat) (ret : Option FieldType) (rm : Room) (D : va_G) (cy : Nat → ClassId) (n : Nat) (ad : Nat → Nat) (cz : Nat → (Nat → Int32) → va_E) (argv : List Value) (ρ : Nat → Nat → Int32) (post : UInt64 → (Nat → Nat → Int32) → Prop) (mc ms : Nat) : Prop := ∀ sz : Nat, Met l y (Cond.code y b nL ret :: wAll) rm (gPc D cy n ad cz ρ argv sz) (va_Qd post (gB D n ad cz) (gA n ad sz)) mc ms (gA n ad sz)
def gXI (l : Launch) (y : MethodName) (b : ByteArray) (nL : Nat) (ret : Option FieldType) (rm : Room) (D : va_G) (cy : Nat → ClassId) (n : Nat) (ad : Nat → Nat) (cz : Nat → (Nat → Int32) → va_E) (argv : List Value) (ρ : Nat → Nat → Int32) (post : Int32 → (Nat → Nat → Int32) → Prop) (xp : String → Prop) (mc ms : Nat) : Prop := ∀ sz : Nat, vx_Met l y (Cond.code y b nL ret :: wAll) rm (gPx D cy n ad cz ρ argv sz) (va_Qi post (gB D n ad cz) (gA n ad sz)) (gXC D n ad cz ρ xp (gA n ad sz)) mc ms (gA n ad sz)
def gXV (l : Launch) (y : MethodName) (b : ByteArray) (nL : Nat) (ret : Option FieldType) (rm : Room) (D : va_G) (cy : Nat → ClassId) (n : Nat) (ad : Nat → Nat) (cz : Nat → (Nat → Int32) → va_E) (argv : List Value) (ρ : Nat → Nat → Int32) (post : (Nat → Nat → Int32) → Prop) (xp : String → Prop) (mc ms : Nat) : Prop := ∀ sz : Nat, vx_Met l y (Cond.code y b nL ret :: wAll) rm (gPx D cy n ad cz ρ argv sz) (va_Qv post (gB D n ad cz) (gA n ad sz)) (gXC D n ad cz ρ xp (gA n ad sz)) mc ms (gA n ad sz)
section GMS
variable {p : Program} {l : Launch} {e : Env} {R : Room} {s : State} {m : MethodId} {args : Array Value} {below : List Frame} {meth : Method} {c : Code} {Q : State → Prop}
variable {cc : ByteArray} {nL : Nat} {Ts : List Cond} {own : String} {D : va_G} {cy : Nat → ClassId} {A : Nat → Prop}
variable {n : Nat} {ad : Nat → Nat} {cz : Nat → (Nat → Int32) → va_E} {ρ : Nat → Nat → Int32} {cells slots pc : Nat} {ls ls' : List (Nat × Value)} {st st0 rest : List Value}
variable {y : MethodName} {ws ws' : List Cond} {rm : Room} {bytes : ByteArray} {maxL nA index mc ms : Nat} {ret : Option FieldType} {C : String} {T : u_T} {N ci : Nat} {As : List Value}
variable {n' : Nat} {ad' : Nat → Nat} {cz' : Nat → (Nat → Int32) → va_E}
theorem gBack_all {ρ ρ1 : Nat → Nat → Int32} {k : Nat} (h : k < n) : gBack ρ 0 n ρ1 k = ρ1 k := by
  simp only [gBack]
  rw [if_pos ⟨Nat.zero_le _, by omega⟩, Nat.sub_zero]
theorem gOff0 (ρ : Nat → Nat → Int32) : (fun j => ρ (0 + j)) = ρ := by funext j; rw [Nat.zero_add]
theorem g_mcallVi_at (X : gX p m c cc nL s args Ts own D cy A) {post : Int32 → (Nat → Nat → Int32) → Prop} (k0 : Nat) (off : Nat) (hM : gMI l y bytes maxL ret rm D cy n' ad' cz' (.ref (ad k0) :: As) (fun j => ρ (off + j)) post mc ms) (hL : gLkV own index C y bytes maxL ret nA) (hR : rm.cells = mc ∧ rm.slots = ms ∧ rm.frames + 1 ≤ R.frames ∧ 8 + (maxL + 11) + rm.locals ≤ R.locals) (hs : gSub n ad cz off n' ad' cz') (hk0 : k0 < n) (hO : gOb cz k0 ci) (hc : vwCl[ci]? = some (C, T, N)) (hn : As.length = nA) (hst : st0 = As.reverse ++ .ref (ad k0) :: rest) (hcat : (rest.map fun v => v.category).sum ≤ 8) (hd : decode cc pc = .ok (.invokevirtual index, 3)) (hroom : cells + mc ≤ R.cells ∧ slots + ms ≤ R.slots) (kk : ∀ (r : Int32) (ρ1 : Nat → Nat → Int32), post r ρ1 → GW p l e R s m args below meth c Q nL D A n ad cz (gBack ρ off n' ρ1) (cells + mc) (slots + ms) (pc + 3) ls (.int r :: rest)) : GW p l e R s m args below meth c Q nL D A n ad cz ρ cells slots pc ls st0 := by
  intro H locs la hP hD hS hl
  have hfree := gA_sub hs hD hS X.2.2.1
  obtain ⟨fs9, hfs9⟩ := hO (ρ k0)
  exact va_calli (va_runV X.1 (hM H.size) (gCwV X.1.2.2.2.2 X.2.2.2.1 hL hR) ⟨gPc_blind, va_recv X.2.1 hP hc ((gWl_get hk0).trans (by rw [hfs9])), fun U hU hW => ⟨rfl, by rw [hU], by rw [hU]; exact gP_sub hs hP, va_K.moved hW.alike X.2.1, gInj_sub hs (gD_inj hD), gNst_warm hW X.2.2.2.2⟩⟩ rfl hn hl.1 hst (lv_room hcat) hd hroom) hS (fun q _ h => hfree q h) hfree (fun r ρ1 t H1 locs1 ht hvm hw hB hz1 hk1 hS1 => kk r ρ1 hw H1 locs1 la (gP_back hs (gD_inj hD) hP hk1 (ht ▸ hB)) (gD_of (gD_inj hD) (fun _ hk => gD_in hD hk)) hS1 hl)
theorem g_mcallVi (X : gX p m c cc nL s args Ts own D cy A) {post : Int32 → (Nat → Nat → Int32) → Prop} (k0 : Nat) (hM : gMI l y bytes maxL ret rm D cy n ad cz (.ref (ad k0) :: As) ρ post mc ms) (hL : gLkV own index C y bytes maxL ret nA) (hR : rm.cells = mc ∧ rm.slots = ms ∧ rm.frames + 1 ≤ R.frames ∧ 8 + (maxL + 11) + rm.locals ≤ R.locals) (hk0 : k0 < n) (hO : gOb cz k0 ci) (hc : vwCl[ci]? = some (C, T, N)) (hn : As.length = nA) (hst : st0 = As.reverse ++ .ref (ad k0) :: rest) (hcat : (rest.map fun v => v.category).sum ≤ 8) (hd : decode cc pc = .ok (.invokevirtual index, 3)) (hroom : cells + mc ≤ R.cells ∧ slots + ms ≤ R.slots) (kk : ∀ (r : Int32) (ρ1 : Nat → Nat → Int32), post r ρ1 → GW p l e R s m args below meth c Q nL D A n ad cz ρ1 (cells + mc) (slots + ms) (pc + 3) ls (.int r :: rest)) : GW p l e R s m args below meth c Q nL D A n ad cz ρ cells slots pc ls st0 := g_mcallVi_at X k0 0 (by rw [gOff0]; exact hM) hL hR gSub_self hk0 hO hc hn hst hcat hd hroom (fun r ρ1 hw => g_congr (fun k hk => by rw [gBack_all hk]) (kk r ρ1 hw))
theorem g_mcallVv_at (X : gX p m c cc nL s args Ts own D cy A) {post : (Nat → Nat → Int32) → Prop} (k0 : Nat) (off : Nat) (hM : gMV l y bytes maxL ret rm D cy n' ad' cz' (.ref (ad k0) :: As) (fun j => ρ (off + j)) post mc ms) (hL : gLkV own index C y bytes maxL ret nA) (hR : rm.cells = mc ∧ rm.slots = ms ∧ rm.frames + 1 ≤ R.frames ∧ 8 + (maxL + 11) + rm.locals ≤ R.locals) (hs : gSub n ad cz off n' ad' cz') (hk0 : k0 < n) (hO : gOb cz k0 ci) (hc : vwCl[ci]? = some (C, T, N)) (hn : As.length = nA) (hst : st0 = As.reverse ++ .ref (ad k0) :: rest) (hcat : (rest.map fun v => v.category).sum ≤ 8) (hd : decode cc pc = .ok (.invokevirtual index, 3)) (hroom : cells + mc ≤ R.cells ∧ slots + ms ≤ R.slots) (kk : ∀ (ρ1 : Nat → Nat → Int32), post ρ1 → GW p l e R s m args below meth c Q nL D A n ad cz (gBack ρ off n' ρ1) (cells + mc) (slots + ms) (pc + 3) ls rest) : GW p l e R s m args below meth c Q nL D A n ad cz ρ cells slots pc ls st0 := by
  intro H locs la hP hD hS hl
  have hfree := gA_sub hs hD hS X.2.2.1
  obtain ⟨fs9, hfs9⟩ := hO (ρ k0)
  exact va_callv (va_runV X.1 (hM H.size) (gCwV X.1.2.2.2.2 X.2.2.2.1 hL hR) ⟨gPc_blind, va_recv X.2.1 hP hc ((gWl_get hk0).trans (by rw [hfs9])), fun U hU hW => ⟨rfl, by rw [hU], by rw [hU]; exact gP_sub hs hP, va_K.moved hW.alike X.2.1, gInj_sub hs (gD_inj hD), gNst_warm hW X.2.2.2.2⟩⟩ rfl hn hl.1 hst (lv_room hcat) hd hroom) hS (fun q _ h => hfree q h) hfree (fun ρ1 t H1 locs1 ht hvm hw hB hz1 hk1 hS1 => kk ρ1 hw H1 locs1 la (gP_back hs (gD_inj hD) hP hk1 (ht ▸ hB)) (gD_of (gD_inj hD) (fun _ hk => gD_in hD hk)) hS1 hl)
theorem g_mcallVv (X : gX p m c cc nL s args Ts own D cy A) {post : (Nat → Nat → Int32) → Prop} (k0 : Nat) (hM : gMV l y bytes maxL ret rm D cy n ad cz (.ref (ad k0) :: As) ρ post mc ms) (hL : gLkV own index C y bytes maxL ret nA) (hR : rm.cells = mc ∧ rm.slots = ms ∧ rm.frames + 1 ≤ R.frames ∧ 8 + (maxL + 11) + rm.locals ≤ R.locals) (hk0 : k0 < n) (hO : gOb cz k0 ci) (hc : vwCl[ci]? = some (C, T, N)) (hn : As.length = nA) (hst : st0 = As.reverse ++ .ref (ad k0) :: rest) (hcat : (rest.map fun v => v.category).sum ≤ 8) (hd : decode cc pc = .ok (.invokevirtual index, 3)) (hroom : cells + mc ≤ R.cells ∧ slots + ms ≤ R.slots) (kk : ∀ (ρ1 : Nat → Nat → Int32), post ρ1 → GW p l e R s m args below meth c Q nL D A n ad cz ρ1 (cells + mc) (slots + ms) (pc + 3) ls rest) : GW p l e R s m args below meth c Q nL D A n ad cz ρ cells slots pc ls st0 := g_mcallVv_at X k0 0 (by rw [gOff0]; exact hM) hL hR gSub_self hk0 hO hc hn hst hcat hd hroom (fun ρ1 hw => g_congr (fun k hk => by rw [gBack_all hk]) (kk ρ1 hw))
theorem g_mcallVl_at (X : gX p m c cc nL s args Ts own D cy A) {post : Int64 → (Nat → Nat → Int32) → Prop} (k0 : Nat) (off : Nat) (hM : gML l y bytes maxL ret rm D cy n' ad' cz' (.ref (ad k0) :: As) (fun j => ρ (off + j)) post mc ms) (hL : gLkV own index C y bytes maxL ret nA) (hR : rm.cells = mc ∧ rm.slots = ms ∧ rm.frames + 1 ≤ R.frames ∧ 8 + (maxL + 11) + rm.locals ≤ R.locals) (hs : gSub n ad cz off n' ad' cz') (hk0 : k0 < n) (hO : gOb cz k0 ci) (hc : vwCl[ci]? = some (C, T, N)) (hn : As.length = nA) (hst : st0 = As.reverse ++ .ref (ad k0) :: rest) (hcat : (rest.map fun v => v.category).sum ≤ 8) (hd : decode cc pc = .ok (.invokevirtual index, 3)) (hroom : cells + mc ≤ R.cells ∧ slots + ms ≤ R.slots) (kk : ∀ (r : Int64) (ρ1 : Nat → Nat → Int32), post r ρ1 → GW p l e R s m args below meth c Q nL D A n ad cz (gBack ρ off n' ρ1) (cells + mc) (slots + ms) (pc + 3) ls (.long r :: rest)) : GW p l e R s m args below meth c Q nL D A n ad cz ρ cells slots pc ls st0 := by
  intro H locs la hP hD hS hl
  have hfree := gA_sub hs hD hS X.2.2.1
  obtain ⟨fs9, hfs9⟩ := hO (ρ k0)
  exact va_calll (va_runV X.1 (hM H.size) (gCwV X.1.2.2.2.2 X.2.2.2.1 hL hR) ⟨gPc_blind, va_recv X.2.1 hP hc ((gWl_get hk0).trans (by rw [hfs9])), fun U hU hW => ⟨rfl, by rw [hU], by rw [hU]; exact gP_sub hs hP, va_K.moved hW.alike X.2.1, gInj_sub hs (gD_inj hD), gNst_warm hW X.2.2.2.2⟩⟩ rfl hn hl.1 hst (lv_room hcat) hd hroom) hS (fun q _ h => hfree q h) hfree (fun r ρ1 t H1 locs1 ht hvm hw hB hz1 hk1 hS1 => kk r ρ1 hw H1 locs1 la (gP_back hs (gD_inj hD) hP hk1 (ht ▸ hB)) (gD_of (gD_inj hD) (fun _ hk => gD_in hD hk)) hS1 hl)
theorem g_mcallVl (X : gX p m c cc nL s args Ts own D cy A) {post : Int64 → (Nat → Nat → Int32) → Prop} (k0 : Nat) (hM : gML l y bytes maxL ret rm D cy n ad cz (.ref (ad k0) :: As) ρ post mc ms) (hL : gLkV own index C y bytes maxL ret nA) (hR : rm.cells = mc ∧ rm.slots = ms ∧ rm.frames + 1 ≤ R.frames ∧ 8 + (maxL + 11) + rm.locals ≤ R.locals) (hk0 : k0 < n) (hO : gOb cz k0 ci) (hc : vwCl[ci]? = some (C, T, N)) (hn : As.length = nA) (hst : st0 = As.reverse ++ .ref (ad k0) :: rest) (hcat : (rest.map fun v => v.category).sum ≤ 8) (hd : decode cc pc = .ok (.invokevirtual index, 3)) (hroom : cells + mc ≤ R.cells ∧ slots + ms ≤ R.slots) (kk : ∀ (r : Int64) (ρ1 : Nat → Nat → Int32), post r ρ1 → GW p l e R s m args below meth c Q nL D A n ad cz ρ1 (cells + mc) (slots + ms) (pc + 3) ls (.long r :: rest)) : GW p l e R s m args below meth c Q nL D A n ad cz ρ cells slots pc ls st0 := g_mcallVl_at X k0 0 (by rw [gOff0]; exact hM) hL hR gSub_self hk0 hO hc hn hst hcat hd hroom (fun r ρ1 hw => g_congr (fun k hk => by rw [gBack_all hk]) (kk r ρ1 hw))
theorem g_mcallVd_at (X : gX p m c cc nL s args Ts own D cy A) {post : UInt64 → (Nat → Nat → Int32) → Prop} (k0 : Nat) (off : Nat) (hM : gMD l y bytes maxL ret rm D cy n' ad' cz' (.ref (ad k0) :: As) (fun j => ρ (off + j)) post mc ms) (hL : gLkV own index C y bytes maxL ret nA) (hR : rm.cells = mc ∧ rm.slots = ms ∧ rm.frames + 1 ≤ R.frames ∧ 8 + (maxL + 11) + rm.locals ≤ R.locals) (hs : gSub n ad cz off n' ad' cz') (hk0 : k0 < n) (hO : gOb cz k0 ci) (hc : vwCl[ci]? = some (C, T, N)) (hn : As.length = nA) (hst : st0 = As.reverse ++ .ref (ad k0) :: rest) (hcat : (rest.map fun v => v.category).sum ≤ 8) (hd : decode cc pc = .ok (.invokevirtual index, 3)) (hroom : cells + mc ≤ R.cells ∧ slots + ms ≤ R.slots) (kk : ∀ (r : UInt64) (ρ1 : Nat → Nat → Int32), post r ρ1 → GW p l e R s m args below meth c Q nL D A n ad cz (gBack ρ off n' ρ1) (cells + mc) (slots + ms) (pc + 3) ls (.double r :: rest)) : GW p l e R s m args below meth c Q nL D A n ad cz ρ cells slots pc ls st0 := by
  intro H locs la hP hD hS hl
  have hfree := gA_sub hs hD hS X.2.2.1
  obtain ⟨fs9, hfs9⟩ := hO (ρ k0)
  exact va_calld (va_runV X.1 (hM H.size) (gCwV X.1.2.2.2.2 X.2.2.2.1 hL hR) ⟨gPc_blind, va_recv X.2.1 hP hc ((gWl_get hk0).trans (by rw [hfs9])), fun U hU hW => ⟨rfl, by rw [hU], by rw [hU]; exact gP_sub hs hP, va_K.moved hW.alike X.2.1, gInj_sub hs (gD_inj hD), gNst_warm hW X.2.2.2.2⟩⟩ rfl hn hl.1 hst (lv_room hcat) hd hroom) hS (fun q _ h => hfree q h) hfree (fun r ρ1 t H1 locs1 ht hvm hw hB hz1 hk1 hS1 => kk r ρ1 hw H1 locs1 la (gP_back hs (gD_inj hD) hP hk1 (ht ▸ hB)) (gD_of (gD_inj hD) (fun _ hk => gD_in hD hk)) hS1 hl)
theorem g_mcallVd (X : gX p m c cc nL s args Ts own D cy A) {post : UInt64 → (Nat → Nat → Int32) → Prop} (k0 : Nat) (hM : gMD l y bytes maxL ret rm D cy n ad cz (.ref (ad k0) :: As) ρ post mc ms) (hL : gLkV own index C y bytes maxL ret nA) (hR : rm.cells = mc ∧ rm.slots = ms ∧ rm.frames + 1 ≤ R.frames ∧ 8 + (maxL + 11) + rm.locals ≤ R.locals) (hk0 : k0 < n) (hO : gOb cz k0 ci) (hc : vwCl[ci]? = some (C, T, N)) (hn : As.length = nA) (hst : st0 = As.reverse ++ .ref (ad k0) :: rest) (hcat : (rest.map fun v => v.category).sum ≤ 8) (hd : decode cc pc = .ok (.invokevirtual index, 3)) (hroom : cells + mc ≤ R.cells ∧ slots + ms ≤ R.slots) (kk : ∀ (r : UInt64) (ρ1 : Nat → Nat → Int32), post r ρ1 → GW p l e R s m args below meth c Q nL D A n ad cz ρ1 (cells + mc) (slots + ms) (pc + 3) ls (.double r :: rest)) : GW p l e R s m args below meth c Q nL D A n ad cz ρ cells slots pc ls st0 := g_mcallVd_at X k0 0 (by rw [gOff0]; exact hM) hL hR gSub_self hk0 hO hc hn hst hcat hd hroom (fun r ρ1 hw => g_congr (fun k hk => by rw [gBack_all hk]) (kk r ρ1 hw))
theorem g_mcallSi_at (X : gX p m c cc nL s args Ts own D cy A) {post : Int32 → (Nat → Nat → Int32) → Prop} (off : Nat) (hM : gMI l y bytes maxL ret rm D cy n' ad' cz' As (fun j => ρ (off + j)) post mc ms) (hL : gLkS own index y bytes maxL ret nA) (hR : rm.cells = mc ∧ rm.slots = ms ∧ rm.frames + 1 ≤ R.frames ∧ 8 + (maxL + 11) + rm.locals ≤ R.locals) (hs : gSub n ad cz off n' ad' cz')  (hn : As.length = nA) (hst : st0 = As.reverse ++ rest) (hcat : (rest.map fun v => v.category).sum ≤ 8) (hd : decode cc pc = .ok (.invokestatic index, 3)) (hroom : cells + mc ≤ R.cells ∧ slots + ms ≤ R.slots) (kk : ∀ (r : Int32) (ρ1 : Nat → Nat → Int32), post r ρ1 → GW p l e R s m args below meth c Q nL D A n ad cz (gBack ρ off n' ρ1) (cells + mc) (slots + ms) (pc + 3) ls (.int r :: rest)) : GW p l e R s m args below meth c Q nL D A n ad cz ρ cells slots pc ls st0 := by
  intro H locs la hP hD hS hl
  have hfree := gA_sub hs hD hS X.2.2.1
  exact va_calli (va_runS X.1 (hM H.size) (gCwS X.1.2.2.2.2 X.2.2.2.1 hL hR) ⟨gPc_blind, fun U hU hW => ⟨rfl, by rw [hU], by rw [hU]; exact gP_sub hs hP, va_K.moved hW.alike X.2.1, gInj_sub hs (gD_inj hD), gNst_warm hW X.2.2.2.2⟩⟩ rfl hn hl.1 hst (lv_room hcat) hd hroom) hS (fun q _ h => hfree q h) hfree (fun r ρ1 t H1 locs1 ht hvm hw hB hz1 hk1 hS1 => kk r ρ1 hw H1 locs1 la (gP_back hs (gD_inj hD) hP hk1 (ht ▸ hB)) (gD_of (gD_inj hD) (fun _ hk => gD_in hD hk)) hS1 hl)
theorem g_mcallSi (X : gX p m c cc nL s args Ts own D cy A) {post : Int32 → (Nat → Nat → Int32) → Prop} (hM : gMI l y bytes maxL ret rm D cy n ad cz As ρ post mc ms) (hL : gLkS own index y bytes maxL ret nA) (hR : rm.cells = mc ∧ rm.slots = ms ∧ rm.frames + 1 ≤ R.frames ∧ 8 + (maxL + 11) + rm.locals ≤ R.locals)  (hn : As.length = nA) (hst : st0 = As.reverse ++ rest) (hcat : (rest.map fun v => v.category).sum ≤ 8) (hd : decode cc pc = .ok (.invokestatic index, 3)) (hroom : cells + mc ≤ R.cells ∧ slots + ms ≤ R.slots) (kk : ∀ (r : Int32) (ρ1 : Nat → Nat → Int32), post r ρ1 → GW p l e R s m args below meth c Q nL D A n ad cz ρ1 (cells + mc) (slots + ms) (pc + 3) ls (.int r :: rest)) : GW p l e R s m args below meth c Q nL D A n ad cz ρ cells slots pc ls st0 := g_mcallSi_at X 0 (by rw [gOff0]; exact hM) hL hR gSub_self hn hst hcat hd hroom (fun r ρ1 hw => g_congr (fun k hk => by rw [gBack_all hk]) (kk r ρ1 hw))
theorem g_mcallSv_at (X : gX p m c cc nL s args Ts own D cy A) {post : (Nat → Nat → Int32) → Prop} (off : Nat) (hM : gMV l y bytes maxL ret rm D cy n' ad' cz' As (fun j => ρ (off + j)) post mc ms) (hL : gLkS own index y bytes maxL ret nA) (hR : rm.cells = mc ∧ rm.slots = ms ∧ rm.frames + 1 ≤ R.frames ∧ 8 + (maxL + 11) + rm.locals ≤ R.locals) (hs : gSub n ad cz off n' ad' cz')  (hn : As.length = nA) (hst : st0 = As.reverse ++ rest) (hcat : (rest.map fun v => v.category).sum ≤ 8) (hd : decode cc pc = .ok (.invokestatic index, 3)) (hroom : cells + mc ≤ R.cells ∧ slots + ms ≤ R.slots) (kk : ∀ (ρ1 : Nat → Nat → Int32), post ρ1 → GW p l e R s m args below meth c Q nL D A n ad cz (gBack ρ off n' ρ1) (cells + mc) (slots + ms) (pc + 3) ls rest) : GW p l e R s m args below meth c Q nL D A n ad cz ρ cells slots pc ls st0 := by
  intro H locs la hP hD hS hl
  have hfree := gA_sub hs hD hS X.2.2.1
  exact va_callv (va_runS X.1 (hM H.size) (gCwS X.1.2.2.2.2 X.2.2.2.1 hL hR) ⟨gPc_blind, fun U hU hW => ⟨rfl, by rw [hU], by rw [hU]; exact gP_sub hs hP, va_K.moved hW.alike X.2.1, gInj_sub hs (gD_inj hD), gNst_warm hW X.2.2.2.2⟩⟩ rfl hn hl.1 hst (lv_room hcat) hd hroom) hS (fun q _ h => hfree q h) hfree (fun ρ1 t H1 locs1 ht hvm hw hB hz1 hk1 hS1 => kk ρ1 hw H1 locs1 la (gP_back hs (gD_inj hD) hP hk1 (ht ▸ hB)) (gD_of (gD_inj hD) (fun _ hk => gD_in hD hk)) hS1 hl)
theorem g_mcallSv (X : gX p m c cc nL s args Ts own D cy A) {post : (Nat → Nat → Int32) → Prop} (hM : gMV l y bytes maxL ret rm D cy n ad cz As ρ post mc ms) (hL : gLkS own index y bytes maxL ret nA) (hR : rm.cells = mc ∧ rm.slots = ms ∧ rm.frames + 1 ≤ R.frames ∧ 8 + (maxL + 11) + rm.locals ≤ R.locals)  (hn : As.length = nA) (hst : st0 = As.reverse ++ rest) (hcat : (rest.map fun v => v.category).sum ≤ 8) (hd : decode cc pc = .ok (.invokestatic index, 3)) (hroom : cells + mc ≤ R.cells ∧ slots + ms ≤ R.slots) (kk : ∀ (ρ1 : Nat → Nat → Int32), post ρ1 → GW p l e R s m args below meth c Q nL D A n ad cz ρ1 (cells + mc) (slots + ms) (pc + 3) ls rest) : GW p l e R s m args below meth c Q nL D A n ad cz ρ cells slots pc ls st0 := g_mcallSv_at X 0 (by rw [gOff0]; exact hM) hL hR gSub_self hn hst hcat hd hroom (fun ρ1 hw => g_congr (fun k hk => by rw [gBack_all hk]) (kk ρ1 hw))
theorem g_mcallSl_at (X : gX p m c cc nL s args Ts own D cy A) {post : Int64 → (Nat → Nat → Int32) → Prop} (off : Nat) (hM : gML l y bytes maxL ret rm D cy n' ad' cz' As (fun j => ρ (off + j)) post mc ms) (hL : gLkS own index y bytes maxL ret nA) (hR : rm.cells = mc ∧ rm.slots = ms ∧ rm.frames + 1 ≤ R.frames ∧ 8 + (maxL + 11) + rm.locals ≤ R.locals) (hs : gSub n ad cz off n' ad' cz')  (hn : As.length = nA) (hst : st0 = As.reverse ++ rest) (hcat : (rest.map fun v => v.category).sum ≤ 8) (hd : decode cc pc = .ok (.invokestatic index, 3)) (hroom : cells + mc ≤ R.cells ∧ slots + ms ≤ R.slots) (kk : ∀ (r : Int64) (ρ1 : Nat → Nat → Int32), post r ρ1 → GW p l e R s m args below meth c Q nL D A n ad cz (gBack ρ off n' ρ1) (cells + mc) (slots + ms) (pc + 3) ls (.long r :: rest)) : GW p l e R s m args below meth c Q nL D A n ad cz ρ cells slots pc ls st0 := by
  intro H locs la hP hD hS hl
  have hfree := gA_sub hs hD hS X.2.2.1
  exact va_calll (va_runS X.1 (hM H.size) (gCwS X.1.2.2.2.2 X.2.2.2.1 hL hR) ⟨gPc_blind, fun U hU hW => ⟨rfl, by rw [hU], by rw [hU]; exact gP_sub hs hP, va_K.moved hW.alike X.2.1, gInj_sub hs (gD_inj hD), gNst_warm hW X.2.2.2.2⟩⟩ rfl hn hl.1 hst (lv_room hcat) hd hroom) hS (fun q _ h => hfree q h) hfree (fun r ρ1 t H1 locs1 ht hvm hw hB hz1 hk1 hS1 => kk r ρ1 hw H1 locs1 la (gP_back hs (gD_inj hD) hP hk1 (ht ▸ hB)) (gD_of (gD_inj hD) (fun _ hk => gD_in hD hk)) hS1 hl)
theorem g_mcallSl (X : gX p m c cc nL s args Ts own D cy A) {post : Int64 → (Nat → Nat → Int32) → Prop} (hM : gML l y bytes maxL ret rm D cy n ad cz As ρ post mc ms) (hL : gLkS own index y bytes maxL ret nA) (hR : rm.cells = mc ∧ rm.slots = ms ∧ rm.frames + 1 ≤ R.frames ∧ 8 + (maxL + 11) + rm.locals ≤ R.locals)  (hn : As.length = nA) (hst : st0 = As.reverse ++ rest) (hcat : (rest.map fun v => v.category).sum ≤ 8) (hd : decode cc pc = .ok (.invokestatic index, 3)) (hroom : cells + mc ≤ R.cells ∧ slots + ms ≤ R.slots) (kk : ∀ (r : Int64) (ρ1 : Nat → Nat → Int32), post r ρ1 → GW p l e R s m args below meth c Q nL D A n ad cz ρ1 (cells + mc) (slots + ms) (pc + 3) ls (.long r :: rest)) : GW p l e R s m args below meth c Q nL D A n ad cz ρ cells slots pc ls st0 := g_mcallSl_at X 0 (by rw [gOff0]; exact hM) hL hR gSub_self hn hst hcat hd hroom (fun r ρ1 hw => g_congr (fun k hk => by rw [gBack_all hk]) (kk r ρ1 hw))
theorem g_mcallSd_at (X : gX p m c cc nL s args Ts own D cy A) {post : UInt64 → (Nat → Nat → Int32) → Prop} (off : Nat) (hM : gMD l y bytes maxL ret rm D cy n' ad' cz' As (fun j => ρ (off + j)) post mc ms) (hL : gLkS own index y bytes maxL ret nA) (hR : rm.cells = mc ∧ rm.slots = ms ∧ rm.frames + 1 ≤ R.frames ∧ 8 + (maxL + 11) + rm.locals ≤ R.locals) (hs : gSub n ad cz off n' ad' cz')  (hn : As.length = nA) (hst : st0 = As.reverse ++ rest) (hcat : (rest.map fun v => v.category).sum ≤ 8) (hd : decode cc pc = .ok (.invokestatic index, 3)) (hroom : cells + mc ≤ R.cells ∧ slots + ms ≤ R.slots) (kk : ∀ (r : UInt64) (ρ1 : Nat → Nat → Int32), post r ρ1 → GW p l e R s m args below meth c Q nL D A n ad cz (gBack ρ off n' ρ1) (cells + mc) (slots + ms) (pc + 3) ls (.double r :: rest)) : GW p l e R s m args below meth c Q nL D A n ad cz ρ cells slots pc ls st0 := by
  intro H locs la hP hD hS hl
  have hfree := gA_sub hs hD hS X.2.2.1
  exact va_calld (va_runS X.1 (hM H.size) (gCwS X.1.2.2.2.2 X.2.2.2.1 hL hR) ⟨gPc_blind, fun U hU hW => ⟨rfl, by rw [hU], by rw [hU]; exact gP_sub hs hP, va_K.moved hW.alike X.2.1, gInj_sub hs (gD_inj hD), gNst_warm hW X.2.2.2.2⟩⟩ rfl hn hl.1 hst (lv_room hcat) hd hroom) hS (fun q _ h => hfree q h) hfree (fun r ρ1 t H1 locs1 ht hvm hw hB hz1 hk1 hS1 => kk r ρ1 hw H1 locs1 la (gP_back hs (gD_inj hD) hP hk1 (ht ▸ hB)) (gD_of (gD_inj hD) (fun _ hk => gD_in hD hk)) hS1 hl)
theorem g_mcallSd (X : gX p m c cc nL s args Ts own D cy A) {post : UInt64 → (Nat → Nat → Int32) → Prop} (hM : gMD l y bytes maxL ret rm D cy n ad cz As ρ post mc ms) (hL : gLkS own index y bytes maxL ret nA) (hR : rm.cells = mc ∧ rm.slots = ms ∧ rm.frames + 1 ≤ R.frames ∧ 8 + (maxL + 11) + rm.locals ≤ R.locals)  (hn : As.length = nA) (hst : st0 = As.reverse ++ rest) (hcat : (rest.map fun v => v.category).sum ≤ 8) (hd : decode cc pc = .ok (.invokestatic index, 3)) (hroom : cells + mc ≤ R.cells ∧ slots + ms ≤ R.slots) (kk : ∀ (r : UInt64) (ρ1 : Nat → Nat → Int32), post r ρ1 → GW p l e R s m args below meth c Q nL D A n ad cz ρ1 (cells + mc) (slots + ms) (pc + 3) ls (.double r :: rest)) : GW p l e R s m args below meth c Q nL D A n ad cz ρ cells slots pc ls st0 := g_mcallSd_at X 0 (by rw [gOff0]; exact hM) hL hR gSub_self hn hst hcat hd hroom (fun r ρ1 hw => g_congr (fun k hk => by rw [gBack_all hk]) (kk r ρ1 hw))
theorem g_xcallVi_at (X : gX p m c cc nL s args Ts own D cy A) (hE : gEnv s A) {xp : String → Prop} {post : Int32 → (Nat → Nat → Int32) → Prop} (k0 : Nat) (off : Nat) (hM : gXI l y bytes maxL ret rm D cy n' ad' cz' (.ref (ad k0) :: As) (fun j => ρ (off + j)) post xp mc ms) (hL : gLkV own index C y bytes maxL ret nA) (hR : rm.cells = mc ∧ rm.slots = ms ∧ rm.frames + 1 ≤ R.frames ∧ 8 + (maxL + 11) + rm.locals ≤ R.locals) (hs : gSub n ad cz off n' ad' cz') (hk0 : k0 < n) (hO : gOb cz k0 ci) (hc : vwCl[ci]? = some (C, T, N)) (hn : As.length = nA) (hst : st0 = As.reverse ++ .ref (ad k0) :: rest) (hcat : (rest.map fun v => v.category).sum ≤ 8) (hd : decode cc pc = .ok (.invokevirtual index, 3)) (hroom : cells + mc ≤ R.cells ∧ slots + ms ≤ R.slots) (kx : ∀ (E : String) (ce : Cell) (q9 : Addr) (H1 : Heap) (locs1 : List Loc) (la : Array Slot), xp E → va_P D vwCl (gWl n ad cz ρ) H1 → va_D A (gWl n ad cz ρ) → va_S A s.heap H1 locs1 → lv_has la nL ls → H1[q9]? = some ce → ce.vm = .none → s.vm.findClass E = some ce.cls → vx_W p l e R s m args below meth c H1 locs1 (cells + mc) (slots + ms) Q (F0 m pc la rest) q9) (kk : ∀ (r : Int32) (ρ1 : Nat → Nat → Int32), post r ρ1 → GW p l e R s m args below meth c Q nL D A n ad cz (gBack ρ off n' ρ1) (cells + mc) (slots + ms) (pc + 3) ls (.int r :: rest)) : GW p l e R s m args below meth c Q nL D A n ad cz ρ cells slots pc ls st0 := by
  intro H locs la hP hD hS hl
  have hfree := gA_sub hs hD hS X.2.2.1
  obtain ⟨fs9, hfs9⟩ := hO (ρ k0)
  exact vx_calli (vx_runV X.1 (hM H.size) (gCwV X.1.2.2.2.2 X.2.2.2.1 hL hR) ⟨gPx_blind, va_recv X.2.1 hP hc ((gWl_get hk0).trans (by rw [hfs9])), fun U hU hW => ⟨rfl, by rw [hU], by rw [hU]; exact gP_sub hs hP, va_K.moved hW.alike X.2.1, gInj_sub hs (gD_inj hD), gNst_warm hW X.2.2.2.2, gEnv_at hE hW hU hS hfree⟩⟩ rfl hn hl.1 hst (lv_room hcat) hd hroom) hS (fun q _ h => hfree q h) hfree (fun q _ h => hfree q h) (fun E ce q9 _ t H1 locs1 ht hvm _ hB hz1 hk1 hS1 hce hcv hcl => by
      have hP1 := gP_back hs (gD_inj hD) hP hk1 (ht ▸ hB.2)
      exact kx E ce q9 H1 locs1 la hB.1 (gP_congr (fun k _ => by simp only [gBack]; split <;> simp_all) hP1) (gD_of (gD_inj hD) (fun _ hk => gD_in hD hk)) hS1 hl hce hcv hcl) (fun r ρ1 t H1 locs1 ht hvm hw hB hz1 hk1 hS1 => kk r ρ1 hw H1 locs1 la (gP_back hs (gD_inj hD) hP hk1 (ht ▸ hB)) (gD_of (gD_inj hD) (fun _ hk => gD_in hD hk)) hS1 hl)
theorem g_xcallVi (X : gX p m c cc nL s args Ts own D cy A) (hE : gEnv s A) {xp : String → Prop} {post : Int32 → (Nat → Nat → Int32) → Prop} (k0 : Nat) (hM : gXI l y bytes maxL ret rm D cy n ad cz (.ref (ad k0) :: As) ρ post xp mc ms) (hL : gLkV own index C y bytes maxL ret nA) (hR : rm.cells = mc ∧ rm.slots = ms ∧ rm.frames + 1 ≤ R.frames ∧ 8 + (maxL + 11) + rm.locals ≤ R.locals) (hk0 : k0 < n) (hO : gOb cz k0 ci) (hc : vwCl[ci]? = some (C, T, N)) (hn : As.length = nA) (hst : st0 = As.reverse ++ .ref (ad k0) :: rest) (hcat : (rest.map fun v => v.category).sum ≤ 8) (hd : decode cc pc = .ok (.invokevirtual index, 3)) (hroom : cells + mc ≤ R.cells ∧ slots + ms ≤ R.slots) (kx : ∀ (E : String) (ce : Cell) (q9 : Addr) (H1 : Heap) (locs1 : List Loc) (la : Array Slot), xp E → va_P D vwCl (gWl n ad cz ρ) H1 → va_D A (gWl n ad cz ρ) → va_S A s.heap H1 locs1 → lv_has la nL ls → H1[q9]? = some ce → ce.vm = .none → s.vm.findClass E = some ce.cls → vx_W p l e R s m args below meth c H1 locs1 (cells + mc) (slots + ms) Q (F0 m pc la rest) q9) (kk : ∀ (r : Int32) (ρ1 : Nat → Nat → Int32), post r ρ1 → GW p l e R s m args below meth c Q nL D A n ad cz ρ1 (cells + mc) (slots + ms) (pc + 3) ls (.int r :: rest)) : GW p l e R s m args below meth c Q nL D A n ad cz ρ cells slots pc ls st0 := g_xcallVi_at X hE k0 0 (by rw [gOff0]; exact hM) hL hR gSub_self hk0 hO hc hn hst hcat hd hroom kx (fun r ρ1 hw => g_congr (fun k hk => by rw [gBack_all hk]) (kk r ρ1 hw))
theorem g_xcallVv_at (X : gX p m c cc nL s args Ts own D cy A) (hE : gEnv s A) {xp : String → Prop} {post : (Nat → Nat → Int32) → Prop} (k0 : Nat) (off : Nat) (hM : gXV l y bytes maxL ret rm D cy n' ad' cz' (.ref (ad k0) :: As) (fun j => ρ (off + j)) post xp mc ms) (hL : gLkV own index C y bytes maxL ret nA) (hR : rm.cells = mc ∧ rm.slots = ms ∧ rm.frames + 1 ≤ R.frames ∧ 8 + (maxL + 11) + rm.locals ≤ R.locals) (hs : gSub n ad cz off n' ad' cz') (hk0 : k0 < n) (hO : gOb cz k0 ci) (hc : vwCl[ci]? = some (C, T, N)) (hn : As.length = nA) (hst : st0 = As.reverse ++ .ref (ad k0) :: rest) (hcat : (rest.map fun v => v.category).sum ≤ 8) (hd : decode cc pc = .ok (.invokevirtual index, 3)) (hroom : cells + mc ≤ R.cells ∧ slots + ms ≤ R.slots) (kx : ∀ (E : String) (ce : Cell) (q9 : Addr) (H1 : Heap) (locs1 : List Loc) (la : Array Slot), xp E → va_P D vwCl (gWl n ad cz ρ) H1 → va_D A (gWl n ad cz ρ) → va_S A s.heap H1 locs1 → lv_has la nL ls → H1[q9]? = some ce → ce.vm = .none → s.vm.findClass E = some ce.cls → vx_W p l e R s m args below meth c H1 locs1 (cells + mc) (slots + ms) Q (F0 m pc la rest) q9) (kk : ∀ (ρ1 : Nat → Nat → Int32), post ρ1 → GW p l e R s m args below meth c Q nL D A n ad cz (gBack ρ off n' ρ1) (cells + mc) (slots + ms) (pc + 3) ls rest) : GW p l e R s m args below meth c Q nL D A n ad cz ρ cells slots pc ls st0 := by
  intro H locs la hP hD hS hl
  have hfree := gA_sub hs hD hS X.2.2.1
  obtain ⟨fs9, hfs9⟩ := hO (ρ k0)
  exact vx_callv (vx_runV X.1 (hM H.size) (gCwV X.1.2.2.2.2 X.2.2.2.1 hL hR) ⟨gPx_blind, va_recv X.2.1 hP hc ((gWl_get hk0).trans (by rw [hfs9])), fun U hU hW => ⟨rfl, by rw [hU], by rw [hU]; exact gP_sub hs hP, va_K.moved hW.alike X.2.1, gInj_sub hs (gD_inj hD), gNst_warm hW X.2.2.2.2, gEnv_at hE hW hU hS hfree⟩⟩ rfl hn hl.1 hst (lv_room hcat) hd hroom) hS (fun q _ h => hfree q h) hfree (fun q _ h => hfree q h) (fun E ce q9 _ t H1 locs1 ht hvm _ hB hz1 hk1 hS1 hce hcv hcl => by
      have hP1 := gP_back hs (gD_inj hD) hP hk1 (ht ▸ hB.2)
      exact kx E ce q9 H1 locs1 la hB.1 (gP_congr (fun k _ => by simp only [gBack]; split <;> simp_all) hP1) (gD_of (gD_inj hD) (fun _ hk => gD_in hD hk)) hS1 hl hce hcv hcl) (fun ρ1 t H1 locs1 ht hvm hw hB hz1 hk1 hS1 => kk ρ1 hw H1 locs1 la (gP_back hs (gD_inj hD) hP hk1 (ht ▸ hB)) (gD_of (gD_inj hD) (fun _ hk => gD_in hD hk)) hS1 hl)
theorem g_xcallVv (X : gX p m c cc nL s args Ts own D cy A) (hE : gEnv s A) {xp : String → Prop} {post : (Nat → Nat → Int32) → Prop} (k0 : Nat) (hM : gXV l y bytes maxL ret rm D cy n ad cz (.ref (ad k0) :: As) ρ post xp mc ms) (hL : gLkV own index C y bytes maxL ret nA) (hR : rm.cells = mc ∧ rm.slots = ms ∧ rm.frames + 1 ≤ R.frames ∧ 8 + (maxL + 11) + rm.locals ≤ R.locals) (hk0 : k0 < n) (hO : gOb cz k0 ci) (hc : vwCl[ci]? = some (C, T, N)) (hn : As.length = nA) (hst : st0 = As.reverse ++ .ref (ad k0) :: rest) (hcat : (rest.map fun v => v.category).sum ≤ 8) (hd : decode cc pc = .ok (.invokevirtual index, 3)) (hroom : cells + mc ≤ R.cells ∧ slots + ms ≤ R.slots) (kx : ∀ (E : String) (ce : Cell) (q9 : Addr) (H1 : Heap) (locs1 : List Loc) (la : Array Slot), xp E → va_P D vwCl (gWl n ad cz ρ) H1 → va_D A (gWl n ad cz ρ) → va_S A s.heap H1 locs1 → lv_has la nL ls → H1[q9]? = some ce → ce.vm = .none → s.vm.findClass E = some ce.cls → vx_W p l e R s m args below meth c H1 locs1 (cells + mc) (slots + ms) Q (F0 m pc la rest) q9) (kk : ∀ (ρ1 : Nat → Nat → Int32), post ρ1 → GW p l e R s m args below meth c Q nL D A n ad cz ρ1 (cells + mc) (slots + ms) (pc + 3) ls rest) : GW p l e R s m args below meth c Q nL D A n ad cz ρ cells slots pc ls st0 := g_xcallVv_at X hE k0 0 (by rw [gOff0]; exact hM) hL hR gSub_self hk0 hO hc hn hst hcat hd hroom kx (fun ρ1 hw => g_congr (fun k hk => by rw [gBack_all hk]) (kk ρ1 hw))
theorem g_xcallSi_at (X : gX p m c cc nL s args Ts own D cy A) (hE : gEnv s A) {xp : String → Prop} {post : Int32 → (Nat → Nat → Int32) → Prop} (off : Nat) (hM : gXI l y bytes maxL ret rm D cy n' ad' cz' As (fun j => ρ (off + j)) post xp mc ms) (hL : gLkS own index y bytes maxL ret nA) (hR : rm.cells = mc ∧ rm.slots = ms ∧ rm.frames + 1 ≤ R.frames ∧ 8 + (maxL + 11) + rm.locals ≤ R.locals) (hs : gSub n ad cz off n' ad' cz')  (hn : As.length = nA) (hst : st0 = As.reverse ++ rest) (hcat : (rest.map fun v => v.category).sum ≤ 8) (hd : decode cc pc = .ok (.invokestatic index, 3)) (hroom : cells + mc ≤ R.cells ∧ slots + ms ≤ R.slots) (kx : ∀ (E : String) (ce : Cell) (q9 : Addr) (H1 : Heap) (locs1 : List Loc) (la : Array Slot), xp E → va_P D vwCl (gWl n ad cz ρ) H1 → va_D A (gWl n ad cz ρ) → va_S A s.heap H1 locs1 → lv_has la nL ls → H1[q9]? = some ce → ce.vm = .none → s.vm.findClass E = some ce.cls → vx_W p l e R s m args below meth c H1 locs1 (cells + mc) (slots + ms) Q (F0 m pc la rest) q9) (kk : ∀ (r : Int32) (ρ1 : Nat → Nat → Int32), post r ρ1 → GW p l e R s m args below meth c Q nL D A n ad cz (gBack ρ off n' ρ1) (cells + mc) (slots + ms) (pc + 3) ls (.int r :: rest)) : GW p l e R s m args below meth c Q nL D A n ad cz ρ cells slots pc ls st0 := by
  intro H locs la hP hD hS hl
  have hfree := gA_sub hs hD hS X.2.2.1
  exact vx_calli (vx_runS X.1 (hM H.size) (gCwS X.1.2.2.2.2 X.2.2.2.1 hL hR) ⟨gPx_blind, fun U hU hW => ⟨rfl, by rw [hU], by rw [hU]; exact gP_sub hs hP, va_K.moved hW.alike X.2.1, gInj_sub hs (gD_inj hD), gNst_warm hW X.2.2.2.2, gEnv_at hE hW hU hS hfree⟩⟩ rfl hn hl.1 hst (lv_room hcat) hd hroom) hS (fun q _ h => hfree q h) hfree (fun q _ h => hfree q h) (fun E ce q9 _ t H1 locs1 ht hvm _ hB hz1 hk1 hS1 hce hcv hcl => by
      have hP1 := gP_back hs (gD_inj hD) hP hk1 (ht ▸ hB.2)
      exact kx E ce q9 H1 locs1 la hB.1 (gP_congr (fun k _ => by simp only [gBack]; split <;> simp_all) hP1) (gD_of (gD_inj hD) (fun _ hk => gD_in hD hk)) hS1 hl hce hcv hcl) (fun r ρ1 t H1 locs1 ht hvm hw hB hz1 hk1 hS1 => kk r ρ1 hw H1 locs1 la (gP_back hs (gD_inj hD) hP hk1 (ht ▸ hB)) (gD_of (gD_inj hD) (fun _ hk => gD_in hD hk)) hS1 hl)
theorem g_xcallSi (X : gX p m c cc nL s args Ts own D cy A) (hE : gEnv s A) {xp : String → Prop} {post : Int32 → (Nat → Nat → Int32) → Prop} (hM : gXI l y bytes maxL ret rm D cy n ad cz As ρ post xp mc ms) (hL : gLkS own index y bytes maxL ret nA) (hR : rm.cells = mc ∧ rm.slots = ms ∧ rm.frames + 1 ≤ R.frames ∧ 8 + (maxL + 11) + rm.locals ≤ R.locals)  (hn : As.length = nA) (hst : st0 = As.reverse ++ rest) (hcat : (rest.map fun v => v.category).sum ≤ 8) (hd : decode cc pc = .ok (.invokestatic index, 3)) (hroom : cells + mc ≤ R.cells ∧ slots + ms ≤ R.slots) (kx : ∀ (E : String) (ce : Cell) (q9 : Addr) (H1 : Heap) (locs1 : List Loc) (la : Array Slot), xp E → va_P D vwCl (gWl n ad cz ρ) H1 → va_D A (gWl n ad cz ρ) → va_S A s.heap H1 locs1 → lv_has la nL ls → H1[q9]? = some ce → ce.vm = .none → s.vm.findClass E = some ce.cls → vx_W p l e R s m args below meth c H1 locs1 (cells + mc) (slots + ms) Q (F0 m pc la rest) q9) (kk : ∀ (r : Int32) (ρ1 : Nat → Nat → Int32), post r ρ1 → GW p l e R s m args below meth c Q nL D A n ad cz ρ1 (cells + mc) (slots + ms) (pc + 3) ls (.int r :: rest)) : GW p l e R s m args below meth c Q nL D A n ad cz ρ cells slots pc ls st0 := g_xcallSi_at X hE 0 (by rw [gOff0]; exact hM) hL hR gSub_self hn hst hcat hd hroom kx (fun r ρ1 hw => g_congr (fun k hk => by rw [gBack_all hk]) (kk r ρ1 hw))
theorem g_xcallSv_at (X : gX p m c cc nL s args Ts own D cy A) (hE : gEnv s A) {xp : String → Prop} {post : (Nat → Nat → Int32) → Prop} (off : Nat) (hM : gXV l y bytes maxL ret rm D cy n' ad' cz' As (fun j => ρ (off + j)) post xp mc ms) (hL : gLkS own index y bytes maxL ret nA) (hR : rm.cells = mc ∧ rm.slots = ms ∧ rm.frames + 1 ≤ R.frames ∧ 8 + (maxL + 11) + rm.locals ≤ R.locals) (hs : gSub n ad cz off n' ad' cz')  (hn : As.length = nA) (hst : st0 = As.reverse ++ rest) (hcat : (rest.map fun v => v.category).sum ≤ 8) (hd : decode cc pc = .ok (.invokestatic index, 3)) (hroom : cells + mc ≤ R.cells ∧ slots + ms ≤ R.slots) (kx : ∀ (E : String) (ce : Cell) (q9 : Addr) (H1 : Heap) (locs1 : List Loc) (la : Array Slot), xp E → va_P D vwCl (gWl n ad cz ρ) H1 → va_D A (gWl n ad cz ρ) → va_S A s.heap H1 locs1 → lv_has la nL ls → H1[q9]? = some ce → ce.vm = .none → s.vm.findClass E = some ce.cls → vx_W p l e R s m args below meth c H1 locs1 (cells + mc) (slots + ms) Q (F0 m pc la rest) q9) (kk : ∀ (ρ1 : Nat → Nat → Int32), post ρ1 → GW p l e R s m args below meth c Q nL D A n ad cz (gBack ρ off n' ρ1) (cells + mc) (slots + ms) (pc + 3) ls rest) : GW p l e R s m args below meth c Q nL D A n ad cz ρ cells slots pc ls st0 := by
  intro H locs la hP hD hS hl
  have hfree := gA_sub hs hD hS X.2.2.1
  exact vx_callv (vx_runS X.1 (hM H.size) (gCwS X.1.2.2.2.2 X.2.2.2.1 hL hR) ⟨gPx_blind, fun U hU hW => ⟨rfl, by rw [hU], by rw [hU]; exact gP_sub hs hP, va_K.moved hW.alike X.2.1, gInj_sub hs (gD_inj hD), gNst_warm hW X.2.2.2.2, gEnv_at hE hW hU hS hfree⟩⟩ rfl hn hl.1 hst (lv_room hcat) hd hroom) hS (fun q _ h => hfree q h) hfree (fun q _ h => hfree q h) (fun E ce q9 _ t H1 locs1 ht hvm _ hB hz1 hk1 hS1 hce hcv hcl => by
      have hP1 := gP_back hs (gD_inj hD) hP hk1 (ht ▸ hB.2)
      exact kx E ce q9 H1 locs1 la hB.1 (gP_congr (fun k _ => by simp only [gBack]; split <;> simp_all) hP1) (gD_of (gD_inj hD) (fun _ hk => gD_in hD hk)) hS1 hl hce hcv hcl) (fun ρ1 t H1 locs1 ht hvm hw hB hz1 hk1 hS1 => kk ρ1 hw H1 locs1 la (gP_back hs (gD_inj hD) hP hk1 (ht ▸ hB)) (gD_of (gD_inj hD) (fun _ hk => gD_in hD hk)) hS1 hl)
theorem g_xcallSv (X : gX p m c cc nL s args Ts own D cy A) (hE : gEnv s A) {xp : String → Prop} {post : (Nat → Nat → Int32) → Prop} (hM : gXV l y bytes maxL ret rm D cy n ad cz As ρ post xp mc ms) (hL : gLkS own index y bytes maxL ret nA) (hR : rm.cells = mc ∧ rm.slots = ms ∧ rm.frames + 1 ≤ R.frames ∧ 8 + (maxL + 11) + rm.locals ≤ R.locals)  (hn : As.length = nA) (hst : st0 = As.reverse ++ rest) (hcat : (rest.map fun v => v.category).sum ≤ 8) (hd : decode cc pc = .ok (.invokestatic index, 3)) (hroom : cells + mc ≤ R.cells ∧ slots + ms ≤ R.slots) (kx : ∀ (E : String) (ce : Cell) (q9 : Addr) (H1 : Heap) (locs1 : List Loc) (la : Array Slot), xp E → va_P D vwCl (gWl n ad cz ρ) H1 → va_D A (gWl n ad cz ρ) → va_S A s.heap H1 locs1 → lv_has la nL ls → H1[q9]? = some ce → ce.vm = .none → s.vm.findClass E = some ce.cls → vx_W p l e R s m args below meth c H1 locs1 (cells + mc) (slots + ms) Q (F0 m pc la rest) q9) (kk : ∀ (ρ1 : Nat → Nat → Int32), post ρ1 → GW p l e R s m args below meth c Q nL D A n ad cz ρ1 (cells + mc) (slots + ms) (pc + 3) ls rest) : GW p l e R s m args below meth c Q nL D A n ad cz ρ cells slots pc ls st0 := g_xcallSv_at X hE 0 (by rw [gOff0]; exact hM) hL hR gSub_self hn hst hcat hd hroom kx (fun ρ1 hw => g_congr (fun k hk => by rw [gBack_all hk]) (kk ρ1 hw))
theorem g_mcallSNi (X : gX p m c cc nL s args Ts own D cy A) {host : String} {post : Int32 → (Nat → Nat → Int32) → Prop} (hM : gMI l y bytes maxL ret rm D cy n ad cz As ρ post mc ms) (hl9 : Cond.methodLinkNest own index y host ∈ gNsw) (h8 : Cond.static y ∈ wAll) (h4 : Cond.initialized y.cls ∈ wAll) (h5 : Cond.code y bytes maxL ret ∈ wAll) (h6 : y.cls ≠ "java/lang/invoke/MethodHandle" ∧ y.cls ≠ "java/lang/invoke/VarHandle" ∧ (parseMethodDescriptor y.desc).map (fun d => d.parameters.length) = some nA) (hR : rm.cells = mc ∧ rm.slots = ms ∧ rm.frames + 1 ≤ R.frames ∧ 8 + (maxL + 11) + rm.locals ≤ R.locals) (hn : As.length = nA) (hst : st0 = As.reverse ++ rest) (hcat : (rest.map fun v => v.category).sum ≤ 8) (hd : decode cc pc = .ok (.invokestatic index, 3)) (hroom : cells + mc ≤ R.cells ∧ slots + ms ≤ R.slots) (kk : ∀ (r : Int32) (ρ1 : Nat → Nat → Int32), post r ρ1 → GW p l e R s m args below meth c Q nL D A n ad cz ρ1 (cells + mc) (slots + ms) (pc + 3) ls (.int r :: rest)) : GW p l e R s m args below meth c Q nL D A n ad cz ρ cells slots pc ls st0 := by
  intro H locs la hP hD hS hl
  have hfree := gA_sub gSub_self hD hS X.2.2.1
  exact va_calli (va_runSN X.1 (hM H.size) ⟨gCwN X.1.2.2.2.2 X.2.2.2.1 X.2.2.2.2 hl9 h4 h5 h6 hR, X.1.2.2.2.2 _ (X.2.2.2.1 _ h8), trivial⟩ ⟨gPc_blind, fun U hU hW => ⟨rfl, by rw [hU], by rw [hU]; exact hP, va_K.moved hW.alike X.2.1, gD_inj hD, gNst_warm hW X.2.2.2.2⟩⟩ rfl hn hl.1 hst (lv_room hcat) hd hroom) hS (fun q _ h => hfree q h) hfree (fun r ρ1 t H1 locs1 ht hvm hw hB hz1 hk1 hS1 => kk r ρ1 hw H1 locs1 la (ht ▸ hB) (gD_of (gD_inj hD) (fun _ hk => gD_in hD hk)) hS1 hl)
theorem g_iret (X : gX p m c cc nL s args Ts own D cy A) (hr : meth.sig.returnType = some .int) (hlocks : meth.locks = false) {post : Int32 → (Nat → Nat → Int32) → Prop} {v : Int32} (hc : cells ≤ mc) (hs : slots ≤ ms) (hd : decode cc pc = .ok (.ireturn, 1)) (hq : post v ρ) : GW p l e R s m args below meth c (MQ below (va_Qi post (gB D n ad cz) A) args s mc ms A) nL D A n ad cz ρ cells slots pc ls [.int v] := fun H locs la hP hD hS hl => W.widen hc hs (W.iret X.1.1 X.1.2.1 hr (fun t ht hW => ⟨⟨v, ρ, rfl, hq, by show va_P _ _ _ t.heap; rw [ht]; exact hP⟩, hS.F ht⟩) hS.2.2 hd hlocks)
theorem g_xiret (X : gX p m c cc nL s args Ts own D cy A) (hr : meth.sig.returnType = some .int) (hlocks : meth.locks = false) {post : Int32 → (Nat → Nat → Int32) → Prop} {xp : String → Prop} {ρ0 : Nat → Nat → Int32} {v : Int32} (hc : cells ≤ mc) (hs : slots ≤ ms) (hd : decode cc pc = .ok (.ireturn, 1)) (hq : post v ρ) : GW p l e R s m args below meth c (vx_MQ below (va_Qi post (gB D n ad cz) A) (gXC D n ad cz ρ0 xp A) args s mc ms A) nL D A n ad cz ρ cells slots pc ls [.int v] := fun H locs la hP hD hS hl => vx_ret (W.widen hc hs (W.iret X.1.1 X.1.2.1 hr (fun t ht hW => ⟨⟨v, ρ, rfl, hq, by show va_P _ _ _ t.heap; rw [ht]; exact hP⟩, hS.F ht⟩) hS.2.2 hd hlocks))
theorem g_vret (X : gX p m c cc nL s args Ts own D cy A) (hr : meth.sig.returnType = none) (hlocks : meth.locks = false) {post : (Nat → Nat → Int32) → Prop} (hc : cells ≤ mc) (hs : slots ≤ ms) (hd : decode cc pc = .ok (.return_, 1)) (hq : post ρ) : GW p l e R s m args below meth c (MQ below (va_Qv post (gB D n ad cz) A) args s mc ms A) nL D A n ad cz ρ cells slots pc ls [] := fun H locs la hP hD hS hl => W.widen hc hs (W.vret X.1.1 X.1.2.1 hr (fun t ht hW => ⟨⟨ρ, rfl, hq, by show va_P _ _ _ t.heap; rw [ht]; exact hP⟩, hS.F ht⟩) hS.2.2 hd hlocks)
theorem g_xvret (X : gX p m c cc nL s args Ts own D cy A) (hr : meth.sig.returnType = none) (hlocks : meth.locks = false) {post : (Nat → Nat → Int32) → Prop} {xp : String → Prop} {ρ0 : Nat → Nat → Int32} (hc : cells ≤ mc) (hs : slots ≤ ms) (hd : decode cc pc = .ok (.return_, 1)) (hq : post ρ) : GW p l e R s m args below meth c (vx_MQ below (va_Qv post (gB D n ad cz) A) (gXC D n ad cz ρ0 xp A) args s mc ms A) nL D A n ad cz ρ cells slots pc ls [] := fun H locs la hP hD hS hl => vx_ret (W.widen hc hs (W.vret X.1.1 X.1.2.1 hr (fun t ht hW => ⟨⟨ρ, rfl, hq, by show va_P _ _ _ t.heap; rw [ht]; exact hP⟩, hS.F ht⟩) hS.2.2 hd hlocks))
theorem g_lret (X : gX p m c cc nL s args Ts own D cy A) (hr : meth.sig.returnType = some .long) (hlocks : meth.locks = false) {post : Int64 → (Nat → Nat → Int32) → Prop} {v : Int64} (hc : cells ≤ mc) (hs : slots ≤ ms) (hd : decode cc pc = .ok (.lreturn, 1)) (hq : post v ρ) : GW p l e R s m args below meth c (MQ below (va_Ql post (gB D n ad cz) A) args s mc ms A) nL D A n ad cz ρ cells slots pc ls [.long v] := fun H locs la hP hD hS hl => W.widen hc hs (W.lret X.1.1 X.1.2.1 hr (fun t ht hW => ⟨⟨v, ρ, rfl, hq, by show va_P _ _ _ t.heap; rw [ht]; exact hP⟩, hS.F ht⟩) hS.2.2 hd hlocks)
theorem g_dret (X : gX p m c cc nL s args Ts own D cy A) (hr : meth.sig.returnType = some .double) (hlocks : meth.locks = false) {post : UInt64 → (Nat → Nat → Int32) → Prop} {v : UInt64} (hc : cells ≤ mc) (hs : slots ≤ ms) (hd : decode cc pc = .ok (.dreturn, 1)) (hq : post v ρ) : GW p l e R s m args below meth c (MQ below (va_Qd post (gB D n ad cz) A) args s mc ms A) nL D A n ad cz ρ cells slots pc ls [.double v] := fun H locs la hP hD hS hl => W.widen hc hs (W.dret X.1.1 X.1.2.1 hr (fun t ht hW => ⟨⟨v, ρ, rfl, hq, by show va_P _ _ _ t.heap; rw [ht]; exact hP⟩, hS.F ht⟩) hS.2.2 hd hlocks)
theorem g_zret (X : gX p m c cc nL s args Ts own D cy A) {ty : FieldType} (hr : meth.sig.returnType = some ty) (hlocks : meth.locks = false) {post : Int32 → (Nat → Nat → Int32) → Prop} {v : Int32} (hn : narrow ty (.int v) = .int v) (hc : cells ≤ mc) (hs : slots ≤ ms) (hd : decode cc pc = .ok (.ireturn, 1)) (hq : post v ρ) : GW p l e R s m args below meth c (MQ below (va_Qi post (gB D n ad cz) A) args s mc ms A) nL D A n ad cz ρ cells slots pc ls [.int v] := fun H locs la hP hD hS hl => W.widen hc hs (W.zret X.1.1 X.1.2.1 hr hn (fun t ht hW => ⟨⟨v, ρ, rfl, hq, by show va_P _ _ _ t.heap; rw [ht]; exact hP⟩, hS.F ht⟩) hS.2.2 hd hlocks)
theorem g_shrink (hs : gSub n ad cz 0 n' ad' cz') (kk : GW p l e R s m args below meth c Q nL D A n' ad' cz' ρ cells slots pc ls st) : GW p l e R s m args below meth c Q nL D A n ad cz ρ cells slots pc ls st := fun H locs la hP hD hS hl => kk H locs la (by have h := gP_sub hs hP; rw [gOff0] at h; exact h) (gD_of (gInj_sub hs (gD_inj hD)) (fun j hj => by rw [(hs.2 j hj).1]; exact gD_in hD (by have := hs.1; omega))) hS hl
theorem gNsw_ot : ∀ w ∈ gNsw, w.onTables = true := fun w hw => (List.all_eq_true.mp (show gNsw.all Cond.onTables = true by decide +kernel)) w hw
theorem g_throw (X : gX p m c cc nL s args Ts own D cy A) (hE : gEnv s A) (hl0 : l.stackTraces = false) {Qc : Array Value → State → Outcome → State → Prop} {xp : String → Prop} {cls text : String} {names : List String} {ik is ic : Nat} (hcls : Bundle.fit cls = true) (hnames : ∀ n ∈ names, Bundle.fit n = true) (hk : Cond.classLink own ik cls ∈ wAll) (hini : Cond.initialized cls ∈ wAll) (hstr : (own, is, text) ∈ gStr) (hat : ∀ w ∈ vx_atS own ic cls names, w ∈ wAll ∨ w ∈ gNsw) (hgood : ∀ w ∈ Cond.classLink own ik cls :: Cond.initialized cls :: vx_atS own ic cls names, vx_ot w = true)
    (d0 : decode cc pc = .ok (.new ik, 3)) (d3 : decode cc (pc + 3) = .ok (.dup, 1)) (d4 : decode cc (pc + 4) = .ok (.ldc is, 2)) (d6 : decode cc (pc + 6) = .ok (.invokespecial ic, 3)) (d9 : decode cc (pc + 9) = .ok (.athrow, 1)) (hout : ∀ x ∈ c.exceptionTable.toList, False)
    (hR : names.length + 3 < R.frames ∧ (rest.map fun v => v.category).sum + (13 * (names.length + 1) + 43) ≤ R.locals ∧ cells + 1 ≤ R.cells ∧ slots + 6 ≤ R.slots) (hlocks : meth.locks = false) (hx : xp cls) (hc : cells + 1 ≤ mc) (hs : slots + 6 ≤ ms) : GW p l e R s m args below meth c (vx_MQ below Qc (gXC D n ad cz ρ xp A) args s mc ms A) nL D A n ad cz ρ cells slots pc ls rest := fun H locs la hP hD hS hl => by
  obtain ⟨sa, hsa⟩ := hE.2.2 _ hstr
  have hts := X.1.2.2.2.2
  have hat' : ∀ w ∈ vx_atS own ic cls names, w.before args s = true := fun w hw => by
    rcases hat w hw with h | h
    · exact hts _ (X.2.2.2.1 _ h)
    · exact va_Nw.use (gNsw_ot w h) (X.2.2.2.2 w h)
  exact vx_throwS X.1.1 X.1.2.1 hl0 X.1.2.2.2.1 hcls hnames (hts _ (X.2.2.2.1 _ hk)) (hts _ (X.2.2.2.1 _ hini)) hsa hat' hgood hE.1 hE.2.1 hS (hl.1.trans X.1.2.2.1.symm) d0 d3 d4 d6 d9 (fun x h => absurd (hout x h) id) hR.1 hR.2.1 hR.2.2.1 hR.2.2.2 hlocks (fun t hvm hz hk => ⟨(), trivial, ⟨hx, hP.kept (fun k q hq => hk _ (hP k q hq).lt)⟩, ⟨Nat.le_trans hS.1 hz, fun q h1 h2 => (hk q (Nat.lt_of_lt_of_le h1 hS.1)).trans (hS.2.1 q h1 h2)⟩⟩) hS.2.2 hc hs
/-- what a callee throws goes on to the caller -/
theorem g_out (ht9 : ∀ x ∈ c.exceptionTable.toList, False) (hlocks : meth.locks = false) {Qc : Array Value → State → Outcome → State → Prop} {xp xp' : String → Prop} (himp : ∀ E, xp' E → xp E) (hc : cells ≤ mc) (hs : slots ≤ ms) : ∀ (E : String) (ce : Cell) (q9 : Addr) (H1 : Heap) (locs1 : List Loc) (la : Array Slot), xp' E → va_P D vwCl (gWl n ad cz ρ) H1 → va_D A (gWl n ad cz ρ) → va_S A s.heap H1 locs1 → lv_has la nL ls → H1[q9]? = some ce → ce.vm = .none → s.vm.findClass E = some ce.cls → vx_W p l e R s m args below meth c H1 locs1 cells slots (vx_MQ below Qc (gXC D n ad cz ρ xp A) args s mc ms A) (F0 m pc la rest) q9 := fun E ce q9 H1 locs1 la hxE hP hD hS hl hce hcv hcl => vx_out (fun x hx => absurd (ht9 x hx) id) hlocks hce hcv hcl (fun t ht hvm => ⟨(), trivial, ⟨himp E hxE, by rw [ht]; exact hP⟩, hS.F ht⟩) hS.2.2 hc hs
theorem gMI_of {post : Int32 → (Nat → Nat → Int32) → Prop} {argv : List Value} (own : String) (hown : y.cls = own) (hy : plainName y.cls = true) (hlen : (lg_sl argv).length ≤ nL) (hls : lv_args 0 argv = ls) (body : ∀ (p : Program) (e : Env) (s : State) (m : MethodId) (args : Array Value) (below : List Frame) (meth : Method) (c : Code) (A : Nat → Prop), gX p m c cc nL s args (Cond.code y cc nL ret :: wAll) own D cy A → meth.sig.returnType = ret → meth.locks = false → meth.name = y.name → GW p l e rm s m args below meth c (MQ below (va_Qi post (gB D n ad cz) A) args s mc ms A) nL D A n ad cz ρ 0 0 0 ls []) : gMI l y cc nL ret rm D cy n ad cz argv ρ post mc ms := by
  intro sz
  refine Met.ofW (cc := cc) (maxL := nL) (ret := ret) hy rfl ?_
  intro p e s m args below meth c s₁ B hml hv
  obtain ⟨rfl, hsz, hP, hK, hi, hN⟩ := hv
  have hts := atoms_spec (ws := Cond.code y cc nL ret :: wAll) B.pre
  have hfc := findClass_of_methodNamed B.named
  rw [hown] at hfc
  have hl := lv_entry argv (n := nL) hlen
  rw [lg_entry_eq]
  rw [hls] at hl
  subst hsz
  exact body p e s m _ below meth c (gA n ad s.heap.size) ⟨⟨B.exec, B.bytes, hml, hfc, hts⟩, hK, fun q h => Or.inr h, fun w h => List.mem_cons_of_mem _ h, hN⟩ B.returns B.notSynchronized (name_of_methodNamed B.named B.method).1 s.heap [] _ hP (gD_of hi (fun k hk => Or.inl ⟨k, hk, rfl⟩)) va_S.rf hl
theorem gXI_of {post : Int32 → (Nat → Nat → Int32) → Prop} {xp : String → Prop} {argv : List Value} (own : String) (hown : y.cls = own) (hy : plainName y.cls = true) (hlen : (lg_sl argv).length ≤ nL) (hls : lv_args 0 argv = ls) (body : ∀ (p : Program) (e : Env) (s : State) (m : MethodId) (args : Array Value) (below : List Frame) (meth : Method) (c : Code) (A : Nat → Prop), gX p m c cc nL s args (Cond.code y cc nL ret :: wAll) own D cy A → gEnv s A → (∀ x ∈ c.exceptionTable.toList, False) → meth.sig.returnType = ret → meth.locks = false → GW p l e rm s m args below meth c (vx_MQ below (va_Qi post (gB D n ad cz) A) (gXC D n ad cz ρ xp A) args s mc ms A) nL D A n ad cz ρ 0 0 0 ls []) : gXI l y cc nL ret rm D cy n ad cz argv ρ post xp mc ms := by
  intro sz
  refine vx_ofW (cc := cc) (maxL := nL) (ret := ret) hy rfl ?_
  intro p e s m args below meth c s₁ B hml ht hv
  obtain ⟨rfl, hsz, hP, hK, hi, hN, hE⟩ := hv
  have hts := atoms_spec (ws := Cond.code y cc nL ret :: wAll) B.pre
  have hfc := findClass_of_methodNamed B.named
  rw [hown] at hfc
  have hl := lv_entry argv (n := nL) hlen
  rw [lg_entry_eq]
  rw [hls] at hl
  subst hsz
  exact body p e s m _ below meth c (gA n ad s.heap.size) ⟨⟨B.exec, B.bytes, hml, hfc, hts⟩, hK, fun q h => Or.inr h, fun w h => List.mem_cons_of_mem _ h, hN⟩ hE ht B.returns B.notSynchronized s.heap [] _ hP (gD_of hi (fun k hk => Or.inl ⟨k, hk, rfl⟩)) va_S.rf hl
theorem gMV_of {post : (Nat → Nat → Int32) → Prop} {argv : List Value} (own : String) (hown : y.cls = own) (hy : plainName y.cls = true) (hlen : (lg_sl argv).length ≤ nL) (hls : lv_args 0 argv = ls) (body : ∀ (p : Program) (e : Env) (s : State) (m : MethodId) (args : Array Value) (below : List Frame) (meth : Method) (c : Code) (A : Nat → Prop), gX p m c cc nL s args (Cond.code y cc nL ret :: wAll) own D cy A → meth.sig.returnType = ret → meth.locks = false → meth.name = y.name → GW p l e rm s m args below meth c (MQ below (va_Qv post (gB D n ad cz) A) args s mc ms A) nL D A n ad cz ρ 0 0 0 ls []) : gMV l y cc nL ret rm D cy n ad cz argv ρ post mc ms := by
  intro sz
  refine Met.ofW (cc := cc) (maxL := nL) (ret := ret) hy rfl ?_
  intro p e s m args below meth c s₁ B hml hv
  obtain ⟨rfl, hsz, hP, hK, hi, hN⟩ := hv
  have hts := atoms_spec (ws := Cond.code y cc nL ret :: wAll) B.pre
  have hfc := findClass_of_methodNamed B.named
  rw [hown] at hfc
  have hl := lv_entry argv (n := nL) hlen
  rw [lg_entry_eq]
  rw [hls] at hl
  subst hsz
  exact body p e s m _ below meth c (gA n ad s.heap.size) ⟨⟨B.exec, B.bytes, hml, hfc, hts⟩, hK, fun q h => Or.inr h, fun w h => List.mem_cons_of_mem _ h, hN⟩ B.returns B.notSynchronized (name_of_methodNamed B.named B.method).1 s.heap [] _ hP (gD_of hi (fun k hk => Or.inl ⟨k, hk, rfl⟩)) va_S.rf hl
theorem gXV_of {post : (Nat → Nat → Int32) → Prop} {xp : String → Prop} {argv : List Value} (own : String) (hown : y.cls = own) (hy : plainName y.cls = true) (hlen : (lg_sl argv).length ≤ nL) (hls : lv_args 0 argv = ls) (body : ∀ (p : Program) (e : Env) (s : State) (m : MethodId) (args : Array Value) (below : List Frame) (meth : Method) (c : Code) (A : Nat → Prop), gX p m c cc nL s args (Cond.code y cc nL ret :: wAll) own D cy A → gEnv s A → (∀ x ∈ c.exceptionTable.toList, False) → meth.sig.returnType = ret → meth.locks = false → GW p l e rm s m args below meth c (vx_MQ below (va_Qv post (gB D n ad cz) A) (gXC D n ad cz ρ xp A) args s mc ms A) nL D A n ad cz ρ 0 0 0 ls []) : gXV l y cc nL ret rm D cy n ad cz argv ρ post xp mc ms := by
  intro sz
  refine vx_ofW (cc := cc) (maxL := nL) (ret := ret) hy rfl ?_
  intro p e s m args below meth c s₁ B hml ht hv
  obtain ⟨rfl, hsz, hP, hK, hi, hN, hE⟩ := hv
  have hts := atoms_spec (ws := Cond.code y cc nL ret :: wAll) B.pre
  have hfc := findClass_of_methodNamed B.named
  rw [hown] at hfc
  have hl := lv_entry argv (n := nL) hlen
  rw [lg_entry_eq]
  rw [hls] at hl
  subst hsz
  exact body p e s m _ below meth c (gA n ad s.heap.size) ⟨⟨B.exec, B.bytes, hml, hfc, hts⟩, hK, fun q h => Or.inr h, fun w h => List.mem_cons_of_mem _ h, hN⟩ hE ht B.returns B.notSynchronized s.heap [] _ hP (gD_of hi (fun k hk => Or.inl ⟨k, hk, rfl⟩)) va_S.rf hl
theorem gML_of {post : Int64 → (Nat → Nat → Int32) → Prop} {argv : List Value} (own : String) (hown : y.cls = own) (hy : plainName y.cls = true) (hlen : (lg_sl argv).length ≤ nL) (hls : lv_args 0 argv = ls) (body : ∀ (p : Program) (e : Env) (s : State) (m : MethodId) (args : Array Value) (below : List Frame) (meth : Method) (c : Code) (A : Nat → Prop), gX p m c cc nL s args (Cond.code y cc nL ret :: wAll) own D cy A → meth.sig.returnType = ret → meth.locks = false → meth.name = y.name → GW p l e rm s m args below meth c (MQ below (va_Ql post (gB D n ad cz) A) args s mc ms A) nL D A n ad cz ρ 0 0 0 ls []) : gML l y cc nL ret rm D cy n ad cz argv ρ post mc ms := by
  intro sz
  refine Met.ofW (cc := cc) (maxL := nL) (ret := ret) hy rfl ?_
  intro p e s m args below meth c s₁ B hml hv
  obtain ⟨rfl, hsz, hP, hK, hi, hN⟩ := hv
  have hts := atoms_spec (ws := Cond.code y cc nL ret :: wAll) B.pre
  have hfc := findClass_of_methodNamed B.named
  rw [hown] at hfc
  have hl := lv_entry argv (n := nL) hlen
  rw [lg_entry_eq]
  rw [hls] at hl
  subst hsz
  exact body p e s m _ below meth c (gA n ad s.heap.size) ⟨⟨B.exec, B.bytes, hml, hfc, hts⟩, hK, fun q h => Or.inr h, fun w h => List.mem_cons_of_mem _ h, hN⟩ B.returns B.notSynchronized (name_of_methodNamed B.named B.method).1 s.heap [] _ hP (gD_of hi (fun k hk => Or.inl ⟨k, hk, rfl⟩)) va_S.rf hl
theorem gMD_of {post : UInt64 → (Nat → Nat → Int32) → Prop} {argv : List Value} (own : String) (hown : y.cls = own) (hy : plainName y.cls = true) (hlen : (lg_sl argv).length ≤ nL) (hls : lv_args 0 argv = ls) (body : ∀ (p : Program) (e : Env) (s : State) (m : MethodId) (args : Array Value) (below : List Frame) (meth : Method) (c : Code) (A : Nat → Prop), gX p m c cc nL s args (Cond.code y cc nL ret :: wAll) own D cy A → meth.sig.returnType = ret → meth.locks = false → meth.name = y.name → GW p l e rm s m args below meth c (MQ below (va_Qd post (gB D n ad cz) A) args s mc ms A) nL D A n ad cz ρ 0 0 0 ls []) : gMD l y cc nL ret rm D cy n ad cz argv ρ post mc ms := by
  intro sz
  refine Met.ofW (cc := cc) (maxL := nL) (ret := ret) hy rfl ?_
  intro p e s m args below meth c s₁ B hml hv
  obtain ⟨rfl, hsz, hP, hK, hi, hN⟩ := hv
  have hts := atoms_spec (ws := Cond.code y cc nL ret :: wAll) B.pre
  have hfc := findClass_of_methodNamed B.named
  rw [hown] at hfc
  have hl := lv_entry argv (n := nL) hlen
  rw [lg_entry_eq]
  rw [hls] at hl
  subst hsz
  exact body p e s m _ below meth c (gA n ad s.heap.size) ⟨⟨B.exec, B.bytes, hml, hfc, hts⟩, hK, fun q h => Or.inr h, fun w h => List.mem_cons_of_mem _ h, hN⟩ B.returns B.notSynchronized (name_of_methodNamed B.named B.method).1 s.heap [] _ hP (gD_of hi (fun k hk => Or.inl ⟨k, hk, rfl⟩)) va_S.rf hl
end GMS
end
section
/-! The class's cells: 0 the organ; 1 and 6 the pipes and the trial (each with worn, off, cricket, played behind it); 11 tunes, 12 streets, 13 damp; from 14 on each tune with its notes and times; from 32 on each street with what it heard -/
def cC (ad : Nat → Nat) (cy : Nat → ClassId) (k : Nat) (r : Nat → Int32) : va_E :=
  if k = 0 then .inr (3, [.ref (ad 1), .ref (ad 6), .ref (ad 11), .ref (ad 12), .ref (ad 13), .int (r 5), .int (r 6), .int (r 7), .int (r 8), .int (r 9)])
  else if k = 1 ∨ k = 6 then .inr (0, [.ref (ad (k + 1)), .ref (ad (k + 2)), .ref (ad (k + 3)), .ref (ad (k + 4))])
  else if k = 2 ∨ k = 3 ∨ k = 7 ∨ k = 8 then .inl (cy 0, 12, .inl r)
  else if k = 4 ∨ k = 5 ∨ k = 9 ∨ k = 10 then .inl (cy 1, 12, .inl r)
  else if k = 11 then .inl (cy 2, 6, .inr (.inr (.inr (.inr (fun i => some (ad (14 + 3 * i)))))))
  else if k = 12 then .inl (cy 3, 8, .inr (.inr (.inr (.inr (fun i => some (ad (32 + 2 * i)))))))
  else if k = 13 then .inl (cy 0, 7, .inl r)
  else if k < 32 then (if (k - 14) % 3 = 0 then .inr (2, [.ref (ad (k + 1)), .ref (ad (k + 2)), .int (r 2)]) else if (k - 14) % 3 = 1 then .inl (cy 0, 16, .inl r) else .inl (cy 0, 12, .inl r))
  else if k % 2 = 0 then .inr (1, [.ref (ad (k + 1)), .int (r 1), .int (r 2), .int (r 3)])
  else .inl (cy 0, 6, .inl r)
def isP (b : Nat) : Prop := b = 1 ∨ b = 6
section LC
variable {ad : Nat → Nat} {cy : Nat → ClassId} {b t i : Nat}
theorem isP_lt (h : isP b) : b < 10 := by rcases h with rfl | rfl <;> decide
theorem lC_f_worn (h : isP b) : gFR (cC ad cy) ad b 0 0 (b + 1) := by rcases h with rfl | rfl <;> exact fun r => ⟨_, rfl, rfl⟩
theorem lC_worn (h : isP b) : gAI (cC ad cy) (cy 0) (b + 1) 12 := by rcases h with rfl | rfl <;> exact fun r => rfl
theorem lC_f_off (h : isP b) : gFR (cC ad cy) ad b 0 1 (b + 2) := by rcases h with rfl | rfl <;> exact fun r => ⟨_, rfl, rfl⟩
theorem lC_off (h : isP b) : gAI (cC ad cy) (cy 0) (b + 2) 12 := by rcases h with rfl | rfl <;> exact fun r => rfl
theorem lC_f_cri (h : isP b) : gFR (cC ad cy) ad b 0 2 (b + 3) := by rcases h with rfl | rfl <;> exact fun r => ⟨_, rfl, rfl⟩
theorem lC_cri (h : isP b) : gAI (cC ad cy) (cy 1) (b + 3) 12 := by rcases h with rfl | rfl <;> exact fun r => rfl
theorem lC_f_pla (h : isP b) : gFR (cC ad cy) ad b 0 3 (b + 4) := by rcases h with rfl | rfl <;> exact fun r => ⟨_, rfl, rfl⟩
theorem lC_pla (h : isP b) : gAI (cC ad cy) (cy 1) (b + 4) 12 := by rcases h with rfl | rfl <;> exact fun r => rfl
theorem lC_P (h : isP b) : gOb (cC ad cy) b 0 := by rcases h with rfl | rfl <;> exact fun r => ⟨_, rfl⟩
theorem lC_O : gOb (cC ad cy) 0 3 := fun r => ⟨_, rfl⟩
theorem lC_o_pipes : gFR (cC ad cy) ad 0 3 0 1 := fun r => ⟨_, rfl, rfl⟩
theorem lC_o_trial : gFR (cC ad cy) ad 0 3 1 6 := fun r => ⟨_, rfl, rfl⟩
theorem lC_o_tunes : gFR (cC ad cy) ad 0 3 2 11 := fun r => ⟨_, rfl, rfl⟩
theorem lC_o_streets : gFR (cC ad cy) ad 0 3 3 12 := fun r => ⟨_, rfl, rfl⟩
theorem lC_o_damp : gFR (cC ad cy) ad 0 3 4 13 := fun r => ⟨_, rfl, rfl⟩
theorem lC_o_tuneCount : gFI (cC ad cy) 0 3 5 := fun r => ⟨_, rfl, rfl, Nat.le_of_ble_eq_true rfl, fun v => rfl⟩
theorem lC_o_streetCount : gFI (cC ad cy) 0 3 6 := fun r => ⟨_, rfl, rfl, Nat.le_of_ble_eq_true rfl, fun v => rfl⟩
theorem lC_o_day : gFI (cC ad cy) 0 3 7 := fun r => ⟨_, rfl, rfl, Nat.le_of_ble_eq_true rfl, fun v => rfl⟩
theorem lC_o_coins : gFI (cC ad cy) 0 3 8 := fun r => ⟨_, rfl, rfl, Nat.le_of_ble_eq_true rfl, fun v => rfl⟩
theorem lC_o_fines : gFI (cC ad cy) 0 3 9 := fun r => ⟨_, rfl, rfl, Nat.le_of_ble_eq_true rfl, fun v => rfl⟩
theorem lC_tunes : gAR (cC ad cy) ad (cy 2) 11 6 (fun i => 14 + 3 * i) := fun r => ⟨_, rfl, fun i _ => rfl⟩
theorem lC_streets : gAR (cC ad cy) ad (cy 3) 12 8 (fun i => 32 + 2 * i) := fun r => ⟨_, rfl, fun i _ => rfl⟩
theorem lC_damp : gAI (cC ad cy) (cy 0) 13 7 := fun r => rfl
theorem lC_T (h : t < 6) : gOb (cC ad cy) (14 + 3 * t) 2 := by rcases (show t = 0 ∨ t = 1 ∨ t = 2 ∨ t = 3 ∨ t = 4 ∨ t = 5 by omega) with rfl | rfl | rfl | rfl | rfl | rfl <;> exact fun r => ⟨_, rfl⟩
theorem lC_f_notes (h : t < 6) : gFR (cC ad cy) ad (14 + 3 * t) 2 0 (15 + 3 * t) := by rcases (show t = 0 ∨ t = 1 ∨ t = 2 ∨ t = 3 ∨ t = 4 ∨ t = 5 by omega) with rfl | rfl | rfl | rfl | rfl | rfl <;> exact fun r => ⟨_, rfl, rfl⟩
theorem lC_f_times (h : t < 6) : gFR (cC ad cy) ad (14 + 3 * t) 2 1 (16 + 3 * t) := by rcases (show t = 0 ∨ t = 1 ∨ t = 2 ∨ t = 3 ∨ t = 4 ∨ t = 5 by omega) with rfl | rfl | rfl | rfl | rfl | rfl <;> exact fun r => ⟨_, rfl, rfl⟩
theorem lC_f_length (h : t < 6) : gFI (cC ad cy) (14 + 3 * t) 2 2 := by rcases (show t = 0 ∨ t = 1 ∨ t = 2 ∨ t = 3 ∨ t = 4 ∨ t = 5 by omega) with rfl | rfl | rfl | rfl | rfl | rfl <;> exact fun r => ⟨_, rfl, rfl, Nat.le_of_ble_eq_true rfl, fun v => rfl⟩
theorem lC_notes (h : t < 6) : gAI (cC ad cy) (cy 0) (15 + 3 * t) 16 := by rcases (show t = 0 ∨ t = 1 ∨ t = 2 ∨ t = 3 ∨ t = 4 ∨ t = 5 by omega) with rfl | rfl | rfl | rfl | rfl | rfl <;> exact fun r => rfl
theorem lC_times (h : t < 6) : gAI (cC ad cy) (cy 0) (16 + 3 * t) 12 := by rcases (show t = 0 ∨ t = 1 ∨ t = 2 ∨ t = 3 ∨ t = 4 ∨ t = 5 by omega) with rfl | rfl | rfl | rfl | rfl | rfl <;> exact fun r => rfl
theorem lC_S (h : t < 8) : gOb (cC ad cy) (32 + 2 * t) 1 := by rcases (show t = 0 ∨ t = 1 ∨ t = 2 ∨ t = 3 ∨ t = 4 ∨ t = 5 ∨ t = 6 ∨ t = 7 by omega) with rfl | rfl | rfl | rfl | rfl | rfl | rfl | rfl <;> exact fun r => ⟨_, rfl⟩
theorem lC_f_heard (h : t < 8) : gFR (cC ad cy) ad (32 + 2 * t) 1 0 (33 + 2 * t) := by rcases (show t = 0 ∨ t = 1 ∨ t = 2 ∨ t = 3 ∨ t = 4 ∨ t = 5 ∨ t = 6 ∨ t = 7 by omega) with rfl | rfl | rfl | rfl | rfl | rfl | rfl | rfl <;> exact fun r => ⟨_, rfl, rfl⟩
theorem lC_f_listeners (h : t < 8) : gFI (cC ad cy) (32 + 2 * t) 1 1 := by rcases (show t = 0 ∨ t = 1 ∨ t = 2 ∨ t = 3 ∨ t = 4 ∨ t = 5 ∨ t = 6 ∨ t = 7 by omega) with rfl | rfl | rfl | rfl | rfl | rfl | rfl | rfl <;> exact fun r => ⟨_, rfl, rfl, Nat.le_of_ble_eq_true rfl, fun v => rfl⟩
theorem lC_f_permits (h : t < 8) : gFI (cC ad cy) (32 + 2 * t) 1 2 := by rcases (show t = 0 ∨ t = 1 ∨ t = 2 ∨ t = 3 ∨ t = 4 ∨ t = 5 ∨ t = 6 ∨ t = 7 by omega) with rfl | rfl | rfl | rfl | rfl | rfl | rfl | rfl <;> exact fun r => ⟨_, rfl, rfl, Nat.le_of_ble_eq_true rfl, fun v => rfl⟩
theorem lC_f_paid (h : t < 8) : gFI (cC ad cy) (32 + 2 * t) 1 3 := by rcases (show t = 0 ∨ t = 1 ∨ t = 2 ∨ t = 3 ∨ t = 4 ∨ t = 5 ∨ t = 6 ∨ t = 7 by omega) with rfl | rfl | rfl | rfl | rfl | rfl | rfl | rfl <;> exact fun r => ⟨_, rfl, rfl, Nat.le_of_ble_eq_true rfl, fun v => rfl⟩
theorem lC_heard (h : t < 8) : gAI (cC ad cy) (cy 0) (33 + 2 * t) 6 := by rcases (show t = 0 ∨ t = 1 ∨ t = 2 ∨ t = 3 ∨ t = 4 ∨ t = 5 ∨ t = 6 ∨ t = 7 by omega) with rfl | rfl | rfl | rfl | rfl | rfl | rfl | rfl <;> exact fun r => rfl
end LC
/-! The model's cells: 0 the model; 1 many, 2 notes, 3 listeners, 4 permits, 5 paid, 6 played, 7 damp; 8 and 13 its pipes (each with worn, off, cricket, sang behind it) -/
def cM (ad : Nat → Nat) (cy : Nat → ClassId) (k : Nat) (r : Nat → Int32) : va_E :=
  if k = 0 then .inr (5, [.int (r 0), .int (r 1), .ref (ad 1), .ref (ad 2), .int (r 4), .ref (ad 3), .ref (ad 4), .ref (ad 5), .ref (ad 6), .ref (ad 7), .int (r 10), .int (r 11), .ref (ad 8), .ref (ad 13)])
  else if k = 8 ∨ k = 13 then .inr (4, [.int (r 0), .ref (ad (k + 1)), .ref (ad (k + 2)), .ref (ad (k + 3)), .ref (ad (k + 4))])
  else if k = 1 then .inl (cy 0, 6, .inl r)
  else if k = 2 then .inl (cy 0, 96, .inl r)
  else if k = 3 ∨ k = 4 ∨ k = 5 then .inl (cy 0, 8, .inl r)
  else if k = 6 then .inl (cy 0, 48, .inl r)
  else if k = 7 then .inl (cy 0, 7, .inl r)
  else .inl (cy 0, 12, .inl r)
def isQ (b : Nat) : Prop := b = 8 ∨ b = 13
section LM
variable {ad : Nat → Nat} {cy : Nat → ClassId} {b : Nat}
theorem isQ_lt (h : isQ b) : b < 14 := by rcases h with rfl | rfl <;> decide
theorem lM_P (h : isQ b) : gOb (cM ad cy) b 4 := by rcases h with rfl | rfl <;> exact fun r => ⟨_, rfl⟩
theorem lM_f_day (h : isQ b) : gFI (cM ad cy) b 4 0 := by rcases h with rfl | rfl <;> exact fun r => ⟨_, rfl, rfl, Nat.le_of_ble_eq_true rfl, fun v => rfl⟩
theorem lM_O : gOb (cM ad cy) 0 5 := fun r => ⟨_, rfl⟩
theorem lM_f_worn (h : isQ b) : gFR (cM ad cy) ad b 4 1 (b + 1) := by rcases h with rfl | rfl <;> exact fun r => ⟨_, rfl, rfl⟩
theorem lM_worn (h : isQ b) : gAI (cM ad cy) (cy 0) (b + 1) 12 := by rcases h with rfl | rfl <;> exact fun r => rfl
theorem lM_f_off (h : isQ b) : gFR (cM ad cy) ad b 4 2 (b + 2) := by rcases h with rfl | rfl <;> exact fun r => ⟨_, rfl, rfl⟩
theorem lM_off (h : isQ b) : gAI (cM ad cy) (cy 0) (b + 2) 12 := by rcases h with rfl | rfl <;> exact fun r => rfl
theorem lM_f_cri (h : isQ b) : gFR (cM ad cy) ad b 4 3 (b + 3) := by rcases h with rfl | rfl <;> exact fun r => ⟨_, rfl, rfl⟩
theorem lM_cri (h : isQ b) : gAI (cM ad cy) (cy 0) (b + 3) 12 := by rcases h with rfl | rfl <;> exact fun r => rfl
theorem lM_f_sang (h : isQ b) : gFR (cM ad cy) ad b 4 4 (b + 4) := by rcases h with rfl | rfl <;> exact fun r => ⟨_, rfl, rfl⟩
theorem lM_sang (h : isQ b) : gAI (cM ad cy) (cy 0) (b + 4) 12 := by rcases h with rfl | rfl <;> exact fun r => rfl
theorem lM_o_thrown : gFI (cM ad cy) 0 5 0 := fun r => ⟨_, rfl, rfl, Nat.le_of_ble_eq_true rfl, fun v => rfl⟩
theorem lM_o_tunes : gFI (cM ad cy) 0 5 1 := fun r => ⟨_, rfl, rfl, Nat.le_of_ble_eq_true rfl, fun v => rfl⟩
theorem lM_o_streets : gFI (cM ad cy) 0 5 4 := fun r => ⟨_, rfl, rfl, Nat.le_of_ble_eq_true rfl, fun v => rfl⟩
theorem lM_o_coins : gFI (cM ad cy) 0 5 10 := fun r => ⟨_, rfl, rfl, Nat.le_of_ble_eq_true rfl, fun v => rfl⟩
theorem lM_o_fines : gFI (cM ad cy) 0 5 11 := fun r => ⟨_, rfl, rfl, Nat.le_of_ble_eq_true rfl, fun v => rfl⟩
theorem lM_o_many : gFR (cM ad cy) ad 0 5 2 1 := fun r => ⟨_, rfl, rfl⟩
theorem lM_many : gAI (cM ad cy) (cy 0) 1 6 := fun r => rfl
theorem lM_o_notes : gFR (cM ad cy) ad 0 5 3 2 := fun r => ⟨_, rfl, rfl⟩
theorem lM_notes : gAI (cM ad cy) (cy 0) 2 96 := fun r => rfl
theorem lM_o_listeners : gFR (cM ad cy) ad 0 5 5 3 := fun r => ⟨_, rfl, rfl⟩
theorem lM_listeners : gAI (cM ad cy) (cy 0) 3 8 := fun r => rfl
theorem lM_o_permits : gFR (cM ad cy) ad 0 5 6 4 := fun r => ⟨_, rfl, rfl⟩
theorem lM_permits : gAI (cM ad cy) (cy 0) 4 8 := fun r => rfl
theorem lM_o_paid : gFR (cM ad cy) ad 0 5 7 5 := fun r => ⟨_, rfl, rfl⟩
theorem lM_paid : gAI (cM ad cy) (cy 0) 5 8 := fun r => rfl
theorem lM_o_played : gFR (cM ad cy) ad 0 5 8 6 := fun r => ⟨_, rfl, rfl⟩
theorem lM_played : gAI (cM ad cy) (cy 0) 6 48 := fun r => rfl
theorem lM_o_damp : gFR (cM ad cy) ad 0 5 9 7 := fun r => ⟨_, rfl, rfl⟩
theorem lM_damp : gAI (cM ad cy) (cy 0) 7 7 := fun r => rfl
theorem lM_o_s : gFR (cM ad cy) ad 0 5 12 8 := fun r => ⟨_, rfl, rfl⟩
theorem lM_o_ahead : gFR (cM ad cy) ad 0 5 13 13 := fun r => ⟨_, rfl, rfl⟩
end LM
theorem zz_t1 : ∀ w ∈ vx_atS RX3 48 "java/lang/IllegalStateException" ["java/lang/RuntimeException", "java/lang/Exception"], w ∈ wAll ∨ w ∈ gNsw := by decide +kernel
end
section
theorem zz_last : True := trivial
end
