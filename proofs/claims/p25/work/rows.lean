section
-- ===== PART A: goes FIRST, ahead of the names: the tables' words, and 'selects' of the private methods out of them =====
/-- a private method of a class that the tables say can be made, by its rows of tables_1 -/
def lw_okq (q : MethodName × Nat) : Prop := (q.1.cls ≠ "java/lang/invoke/MethodHandle" ∧ q.1.cls ≠ "java/lang/invoke/VarHandle") ∧ Cond.instantiable q.1.cls q.2 ∈ tables_1 ∧ Cond.privateMethod q.1 ∈ tables_1 ∧ Cond.instanceMethod q.1 ∈ tables_1
theorem lw_p0 : lw_okq (⟨"StreetOrgans", "checkTune", "(I)V"⟩, 10) := ⟨⟨by decide +kernel, by decide +kernel⟩, List.mem_of_getElem? (i := 16) (by decide +kernel), List.mem_of_getElem? (i := 125) (by decide +kernel), List.mem_of_getElem? (i := 126) (by decide +kernel)⟩
theorem lw_p1 : lw_okq (⟨"java/lang/Throwable", "fillInStackTrace", "(I)Ljava/lang/Throwable;"⟩, 6) := ⟨⟨by decide +kernel, by decide +kernel⟩, List.mem_of_getElem? (i := 167) (by decide +kernel), List.mem_of_getElem? (i := 165) (by decide +kernel), List.mem_of_getElem? (i := 166) (by decide +kernel)⟩
theorem lw_p2 : lw_okq (⟨"StreetOrgans", "checkStreet", "(I)V"⟩, 10) := ⟨⟨by decide +kernel, by decide +kernel⟩, List.mem_of_getElem? (i := 16) (by decide +kernel), List.mem_of_getElem? (i := 223) (by decide +kernel), List.mem_of_getElem? (i := 224) (by decide +kernel)⟩
theorem lw_p3 : lw_okq (⟨"StreetOrgans", "payFine", "()I"⟩, 10) := ⟨⟨by decide +kernel, by decide +kernel⟩, List.mem_of_getElem? (i := 16) (by decide +kernel), List.mem_of_getElem? (i := 254) (by decide +kernel), List.mem_of_getElem? (i := 255) (by decide +kernel)⟩
theorem lw_p4 : lw_okq (⟨"StreetOrgans", "payNow", "(II)I"⟩, 10) := ⟨⟨by decide +kernel, by decide +kernel⟩, List.mem_of_getElem? (i := 16) (by decide +kernel), List.mem_of_getElem? (i := 261) (by decide +kernel), List.mem_of_getElem? (i := 262) (by decide +kernel)⟩
theorem lw_p5 : lw_okq (⟨"StreetOrgans", "countNow", "(I)I"⟩, 10) := ⟨⟨by decide +kernel, by decide +kernel⟩, List.mem_of_getElem? (i := 16) (by decide +kernel), List.mem_of_getElem? (i := 329) (by decide +kernel), List.mem_of_getElem? (i := 330) (by decide +kernel)⟩
theorem lw_p6 : lw_okq (⟨"StreetOrgans", "passNights", "(LStreetOrgans$Pipes;I)I"⟩, 10) := ⟨⟨by decide +kernel, by decide +kernel⟩, List.mem_of_getElem? (i := 16) (by decide +kernel), List.mem_of_getElem? (i := 357) (by decide +kernel), List.mem_of_getElem? (i := 358) (by decide +kernel)⟩
theorem lw_p7 : lw_okq (⟨"StreetOrgans", "mixTune", "(JLStreetOrgans$Tune;)J"⟩, 10) := ⟨⟨by decide +kernel, by decide +kernel⟩, List.mem_of_getElem? (i := 16) (by decide +kernel), List.mem_of_getElem? (i := 411) (by decide +kernel), List.mem_of_getElem? (i := 412) (by decide +kernel)⟩
theorem lw_p8 : lw_okq (⟨"StreetOrgans", "mixStreet", "(JI)J"⟩, 10) := ⟨⟨by decide +kernel, by decide +kernel⟩, List.mem_of_getElem? (i := 16) (by decide +kernel), List.mem_of_getElem? (i := 415) (by decide +kernel), List.mem_of_getElem? (i := 416) (by decide +kernel)⟩
def lw_privs_1 : List (MethodName × Nat) := [(⟨"StreetOrgans", "checkTune", "(I)V"⟩, 10), (⟨"java/lang/Throwable", "fillInStackTrace", "(I)Ljava/lang/Throwable;"⟩, 6), (⟨"StreetOrgans", "checkStreet", "(I)V"⟩, 10), (⟨"StreetOrgans", "payFine", "()I"⟩, 10), (⟨"StreetOrgans", "payNow", "(II)I"⟩, 10), (⟨"StreetOrgans", "countNow", "(I)I"⟩, 10), (⟨"StreetOrgans", "passNights", "(LStreetOrgans$Pipes;I)I"⟩, 10), (⟨"StreetOrgans", "mixTune", "(JLStreetOrgans$Tune;)J"⟩, 10), (⟨"StreetOrgans", "mixStreet", "(JI)J"⟩, 10)]
theorem lw_r1 : ∀ q ∈ lw_privs_1, lw_okq q := List.forall_mem_cons.mpr ⟨lw_p0, List.forall_mem_cons.mpr ⟨lw_p1, List.forall_mem_cons.mpr ⟨lw_p2, List.forall_mem_cons.mpr ⟨lw_p3, List.forall_mem_cons.mpr ⟨lw_p4, List.forall_mem_cons.mpr ⟨lw_p5, List.forall_mem_cons.mpr ⟨lw_p6, List.forall_mem_cons.mpr ⟨lw_p7, List.forall_mem_cons.mpr ⟨lw_p8, fun _ h => absurd h List.not_mem_nil⟩⟩⟩⟩⟩⟩⟩⟩⟩
def lw_privs : List (MethodName × Nat) := lw_privs_1
def lw_tbl : List Cond := k2_sels lw_privs ++ tables_1
theorem lw_privs_ok : ∀ q ∈ lw_privs, lw_okq q := lw_r1
/-- the streams that the claim lets the run draw from -/
abbrev lw_cs : List Choice := [Jvm.Choice.named "NaN.bits"]
theorem lw_bits : nanBits ∈ lw_cs := by first | decide | exact List.mem_cons_self | simp [lw_cs, nanBits]
end
section
/-! ===== BEGIN words of one list among another's, by their places ===== -/
theorem goodIn_r {big : List Cond} (ws : List Cond) (ps : List Nat) (hp : ws = ps.filterMap (fun i => big[i]?)) (h : ws.all goodWord = true) : GoodIn big ws := by
  intro w hw
  have h1 := List.all_eq_true.mp h w hw
  rw [hp] at hw
  obtain ⟨i, -, hi⟩ := List.mem_filterMap.mp hw
  have hm : w ∈ big := by first | exact List.mem_of_getElem? hi | exact List.getElem?_mem hi
  exact ⟨hm, good_of_word h1⟩
theorem goodIn_app {big a b : List Cond} (ha : GoodIn big a) (hb : GoodIn big b) : GoodIn big (a ++ b) := fun w h => (List.mem_append.mp h).elim (ha w) (hb w)
theorem goodIn_ca {big a b : List Cond} {c : Cond} (ha : GoodIn big (c :: a)) (hb : GoodIn big b) : GoodIn big (c :: (a ++ b)) := fun w h => (List.mem_cons.mp h).elim (fun e => ha w (List.mem_cons.mpr (Or.inl e))) (fun h => (List.mem_append.mp h).elim (fun h => ha w (List.mem_cons.mpr (Or.inr h))) (hb w))
theorem goodIn_sub {big ws : List Cond} (hm : ∀ w ∈ ws, w ∈ big) (h : ws.all goodWord = true) : GoodIn big ws := fun w hw => ⟨hm w hw, good_of_word (List.all_eq_true.mp h w hw)⟩
/-! ===== END ===== -/

/-! ===== BEGIN exceptions that leave a method, and their catching by the caller (launches without stack traces) ===== -/
section VXA
/-! The laws vx_back, vx_callV, vx_callS, vx_callSW, vx_throw0, vx_throwS follow proofs of the library, with one case more: JvmDerived/Free/Laws.lean (Back.of_free), Shelf42/LK1.lean (callV, callS), Shelf/KitTraced.lean (throwNew0V, throwNewS). -/
/-- where a method has thrown q: the class by its name, the cell, what was written, the world -/
def vx_T (XC : String → State → State → Prop) (st : State) (q : Addr) (t : State) (mc ms : Nat) (free : Addr → Prop) : Prop :=
  ∃ (E : String) (ce : Cell) (L : List Loc), XC E st t ∧ t.heap[q]? = some ce ∧ ce.vm = .none ∧ st.vm.findClass E = some ce.cls ∧ st.WarmedH t.vm ∧ st.sameButNew ({ t with vm := st.vm } : State) L mc ms ∧ ∀ z ∈ L, free z.base
def vx_Q (Qc : Array Value → State → Outcome → State → Prop) (XC : String → State → State → Prop) (mc ms : Nat) (free : Addr → Prop) : Array Value → State → Outcome → State → Prop := fun a st o t =>
  (Qc a st o t ∧ ∃ L, FrameEnd st o t L mc ms ∧ ∀ q ∈ L, free q.base) ∨ ∃ q, o = .threw q ∧ vx_T XC st q t mc ms free
/-- a callee that returns or throws -/
def vx_Met (l : Launch) (y : MethodName) (ws : List Cond) (rm : Room) (Pc : Array Value → State → Prop) (Qc : Array Value → State → Outcome → State → Prop) (XC : String → State → State → Prop) (mc ms : Nat) (free : Addr → Prop) : Prop :=
  MetFree l y (headSpec ws rm) Pc (fun _ _ _ _ _ => True) (vx_Q Qc XC mc ms free)
def vx_Post (XC : String → State → State → Prop) (mc ms : Nat) (free : Addr → Prop) : Pt → Array Value → Addr → Pt → Prop := fun A a q B =>
  ∃ (g : JFrame) (mk : MethodId) (t : State) (L : List Loc) (E : String) (ce : Cell), B.U.heap = t.heap ∧ B.U.vm = t.vm ∧ XC E (A.U.calling g mk a) t ∧ t.heap[q]? = some ce ∧ ce.vm = .none ∧ A.U.vm.findClass E = some ce.cls ∧ B.locs = A.locs ++ L ∧ (∀ z ∈ L, free z.base) ∧ B.cells = A.cells + mc ∧ B.slots = A.slots + ms
def vx_Back (l : Launch) (R : Room) (p : Program) (e : Env) (below : List Frame) (s : State) (sargs : Array Value) (y : MethodName) (len W9 : Nat)
    (Pre : Pt → Array Value → Prop) (Post : Pt → Array Value → Option Value → Pt → Prop) (PostX : Pt → Array Value → Addr → Pt → Prop) : Prop :=
  ∀ (m : MethodId) (meth : Method) (c : Code) (A : Pt) (g : JFrame) (ig : Instr) (mk : MethodId) (a : Array Value),
    Stand p l e R s m sargs below meth c A.U A.locs A.cells A.slots → g.method = m → g.locals.size = c.maxLocals → decode c.code g.pc = .ok (ig, len) →
    2 * g.monitorRoom + (g.stack.map fun v => v.category).sum ≤ W9 → A.U.methodNamed? y = some mk → Pre A a →
    (∃ (v : Option Value) (B : Pt), Stand p l e R s m sargs below meth c B.U B.locs B.cells B.slots ∧ Post A a v B ∧
      Steps p.tables e below (doInvoke e (A.U.setTop g) [] mk a).1 (B.U.setTop { g with pc := g.pc + len, stack := v.toList ++ g.stack })) ∨
    (∃ (q : Addr) (B : Pt), Stand p l e R s m sargs below meth c B.U B.locs B.cells B.slots ∧ PostX A a q B ∧
      Steps p.tables e below (doInvoke e (A.U.setTop g) [] mk a).1 ((B.U.setTop g).pushFrame (.throwing q)))
section Payer
variable {l : Launch} {R : Room} {p : Program} {e : Env} {below : List Frame} {s : State} {sargs : Array Value} {y : MethodName} {len W9 : Nat}
theorem vx_back {ws : List Cond} {rm : Room} {Pc : Array Value → State → Prop} {Qc : Array Value → State → Outcome → State → Prop} {XC : String → State → State → Prop} {mc ms : Nat} {free : Addr → Prop} {bytes : ByteArray} {maxL : Nat} {ret : Option FieldType}
    (hM : vx_Met l y ws rm Pc Qc XC mc ms free) (hblind : FrameBlind Pc) (hrc : rm.cells = mc) (hrs : rm.slots = ms)
    (hframes : rm.frames + 1 ≤ R.frames) (hlocals : W9 + (maxL + 11) + rm.locals ≤ R.locals)
    (hws : ∀ w ∈ ws, ∀ a' U, s.WarmedH U.vm → w.before a' U = true) (hcode : Cond.code y bytes maxL ret ∈ ws) (hinit : ∀ a' U, s.WarmedH U.vm → (Cond.initialized y.cls).before a' U = true) :
    vx_Back l R p e below s sargs y len W9 (PreOf R mc ms Pc) (PostOf Qc mc ms free) (vx_Post XC mc ms free) := by
  intro m meth c A g ig mk a X hg hsize hdg hW hn hp
  have h1 : (headSpec ws rm).pre.before a A.U = true := atoms_intro fun w hw => hws w hw _ _ X.warmed
  have h2 : (Cond.code y bytes maxL ret).before a A.U = true := hws _ hcode _ _ X.warmed
  have h3 : (Cond.initialized y.cls).before a A.U = true := hinit _ _ X.warmed
  have h4 : A.cells + (headSpec ws rm).room.cells ≤ R.cells := by rw [show (headSpec ws rm).room.cells = mc from hrc]; exact hp.1
  have h5 : A.slots + (headSpec ws rm).room.slots ≤ R.slots := by rw [show (headSpec ws rm).room.slots = ms from hrs]; exact hp.2.1
  have hPc : Pc a (A.U.calling g mk a) := hblind _ _ _ _ hp.2.2
  obtain ⟨U, Ls, c0, s0⟩ := A
  dsimp only [Pt.U, Pt.locs, Pt.cells, Pt.slots] at h1 h2 h3 h4 h5 X hn hPc ⊢
  obtain ⟨methY, cY, hmY, hcY, -, hlY, -, -, -, -⟩ := Cond.code_spec hn h2
  obtain ⟨kY, hkY, -⟩ := className_of_methodNamed hn
  have hinitY : kY.init = .initialized := Cond.initialized_spec (findClass_of_methodNamed hn) hkY h3
  have h : At U g.method c below := by rw [hg]; exact X.here
  have hlocals9 : W9 + (maxL + 11) + (headSpec ws rm).room.locals ≤ R.locals := hlocals
  have happ : (headSpec ws rm).appliesLoose y e.platform (U.calling g mk a) = true :=
    Spec.appliesLoose_calling (g := g) h hdg hn hkY hinitY
      (X.room_calling (g := g) (R' := (headSpec ws rm).room) hsize hmY hcY hframes (by rw [hlY]; omega) h4 h5) h1
  obtain ⟨mid, hmid⟩ := h.above
  have hfr : (U.setTop g).frames = (.java g :: mid) ++ below := by rw [State.frames_setTop' g h.top, hmid]; rfl
  obtain ⟨o, s₂, hsteps, -, hend, hq⟩ := Steps.callFree hM p X.admits X.cas X.clock (acts := []) hfr happ hPc trivial
  have hq' : vx_Q Qc XC mc ms free a (U.calling g mk a) o s₂ := hq
  rw [State.frames_setTop' g h.top] at hend
  obtain ⟨g₀, hg0⟩ := Option.isSome_iff_exists.mp h.top
  obtain ⟨r, hr⟩ := State.topJava?_eq_some.mp hg0
  have hr' : (({ U with heap := s₂.heap, slotsUsed := s₂.slotsUsed } : State).setVm s₂.vm).frames = .java g₀ :: r := hr
  rcases hq' with ⟨hqc, L, hfe, hL⟩ | ⟨q, rfl, E, ce, L, hx, hce, hcv, hcl, hW₂, hsm, hL⟩
  · obtain ⟨⟨v, rfl⟩, hW₂, e2, q2, q3, q4, q5, q6⟩ := id hfe
    have e3 : s₂ = ({ (U.calling g mk a).setFrames s₂.frames with heap := s₂.heap, slotsUsed := s₂.slotsUsed } : State).setVm s₂.vm := by
      have : s₂ = ({ s₂ with vm := (U.calling g mk a).vm } : State).setVm s₂.vm := rfl
      rw [e2] at this
      exact this
    obtain ⟨c₂, i₂, len₂, hc₂, hd₂, hf₂⟩ := hend
    have hW' : U.WarmedH s₂.vm := hW₂
    have hcc : c₂ = c := by
      have h1 : s₂.code? g.method = U.code? g.method := by
        rw [State.code?_eq, State.code?_eq, hW'.alike.method?]
      exact Option.some.inj (hc₂.symm.trans (h1.trans h.code))
    subst hcc
    have hlen : len₂ = len := by rw [hdg] at hd₂; cases hd₂; rfl
    subst hlen
    have hs₂ : s₂ = (({ U with heap := s₂.heap, slotsUsed := s₂.slotsUsed } : State).setVm s₂.vm).setTop { g with pc := g.pc + len₂, stack := v.toList ++ g.stack } := by
      refine e3.trans ?_
      rw [hf₂, State.calling_eq h.top, State.setFrames_setFrames, State.setTop_of_frames _ hr', hr]
      rfl
    have hsame : U.sameButNew ({ U with heap := s₂.heap, slotsUsed := s₂.slotsUsed } : State) L mc ms := by
      refine ⟨?_, q2, q3, q4, q5, q6⟩
      obtain ⟨t, ht, -⟩ := State.frames_cons hr
      show ({ U with heap := s₂.heap, slotsUsed := s₂.slotsUsed } : State) = { U.setFrames U.frames with heap := s₂.heap, slotsUsed := s₂.slotsUsed }
      rw [State.setFrames_self ht]
    subst hg
    refine Or.inl ⟨v, ⟨(({ U with heap := s₂.heap, slotsUsed := s₂.slotsUsed } : State).setVm s₂.vm), Ls ++ L, c0 + mc, s0 + ms⟩,
      ⟨X.admits, X.cas, X.clock, X.frames, X.room, X.hears, X.method, X.code, (X.here.setHeapUsed s₂.heap s₂.slotsUsed).setVm hW'.alike, X.tail, State.WarmedH.trans X.warmed hW', X.limits, X.bytes, X.same.trans (hsame.setVm s.vm)⟩,
      ⟨g, mk, s₂, L, rfl, rfl, hqc, rfl, hL, rfl, rfl⟩, ?_⟩
    show Steps p.tables e below _ ((({ U with heap := s₂.heap, slotsUsed := s₂.slotsUsed } : State).setVm s₂.vm).setTop { g with pc := g.pc + len₂, stack := v.toList ++ g.stack })
    rw [← hs₂]
    exact hsteps
  · obtain ⟨e2, q2, q3, q4, q5, q6⟩ := id hsm
    have e3 : s₂ = ({ (U.calling g mk a).setFrames s₂.frames with heap := s₂.heap, slotsUsed := s₂.slotsUsed } : State).setVm s₂.vm := by
      have : s₂ = ({ s₂ with vm := (U.calling g mk a).vm } : State).setVm s₂.vm := rfl
      rw [e2] at this
      exact this
    have hf₂ : s₂.frames = .throwing q :: .java g :: U.frames.tail := hend
    have hW' : U.WarmedH s₂.vm := hW₂
    have hs₂ : s₂ = ((({ U with heap := s₂.heap, slotsUsed := s₂.slotsUsed } : State).setVm s₂.vm).setTop g).pushFrame (.throwing q) := by
      refine e3.trans ?_
      rw [hf₂, State.calling_eq h.top, State.setFrames_setFrames, State.pushFrame, State.frames_setTop _ hr', State.setTop_of_frames _ hr', State.setFrames_setFrames, hr]
      rfl
    have hsame : U.sameButNew ({ U with heap := s₂.heap, slotsUsed := s₂.slotsUsed } : State) L mc ms := by
      refine ⟨?_, q2, q3, q4, q5, q6⟩
      obtain ⟨t, ht, -⟩ := State.frames_cons hr
      show ({ U with heap := s₂.heap, slotsUsed := s₂.slotsUsed } : State) = { U.setFrames U.frames with heap := s₂.heap, slotsUsed := s₂.slotsUsed }
      rw [State.setFrames_self ht]
    subst hg
    refine Or.inr ⟨q, ⟨(({ U with heap := s₂.heap, slotsUsed := s₂.slotsUsed } : State).setVm s₂.vm), Ls ++ L, c0 + mc, s0 + ms⟩,
      ⟨X.admits, X.cas, X.clock, X.frames, X.room, X.hears, X.method, X.code, (X.here.setHeapUsed s₂.heap s₂.slotsUsed).setVm hW'.alike, X.tail, State.WarmedH.trans X.warmed hW', X.limits, X.bytes, X.same.trans (hsame.setVm s.vm)⟩,
      ⟨g, mk, s₂, L, E, ce, rfl, rfl, hx, hce, hcv, hcl, rfl, hL, rfl, rfl⟩, ?_⟩
    show Steps p.tables e below _ (((({ U with heap := s₂.heap, slotsUsed := s₂.slotsUsed } : State).setVm s₂.vm).setTop g).pushFrame (.throwing q))
    rw [← hs₂]
    exact hsteps
end Payer
section Calls
variable {p : Program} {l : Launch} {e : Env} {R : Room} {s : State} {m : MethodId} {args : Array Value} {below : List Frame} {meth : Method} {c : Code} {T : State} {locs : List Loc} {cells slots : Nat}
theorem vx_callV (X : Stand p l e R s m args below meth c T locs cells slots) (hexec : p.tables.exec = Jvm.exec) {own C : String} {index : Nat} {y : MethodName} {bytes : ByteArray} {maxL : Nat} {ret : Option FieldType}
    (hown : s.vm.findClass own = some m.cls) (hlink : (Cond.methodLink own index y).before args s = true) (hinst : (Cond.instanceMethod y).before args s = true) (hsel : (Cond.selects C y y).before args s = true)
    (hcode : (Cond.code y bytes maxL ret).before args s = true) (hy : y.cls ≠ "java/lang/invoke/MethodHandle" ∧ y.cls ≠ "java/lang/invoke/VarHandle")
    {W9 : Nat} {Pre : Pt → Array Value → Prop} {Post : Pt → Array Value → Option Value → Pt → Prop} {PostX : Pt → Array Value → Addr → Pt → Prop} (hK : vx_Back l R p e below s args y 3 W9 Pre Post PostX)
    {b : Addr} {cellB : Cell} (hcell : T.heap[b]? = some cellB) (hobj : cellB.vm.isStatics = false) (hcls : s.vm.findClass C = some cellB.cls)
    {g : JFrame} (hg : g.method = m) (hsize : g.locals.size = c.maxLocals) {argsL rest : List Value} (hlen : ∀ sig, parseMethodDescriptor y.desc = some sig → argsL.length = sig.parameters.length)
    (hstack : g.stack = argsL.reverse ++ .ref b :: rest) (hW : 2 * g.monitorRoom + (rest.map fun v => v.category).sum ≤ W9) (hdg : decode c.code g.pc = .ok (.invokevirtual index, 3))
    (hpre : ∀ vm₁, s.WarmedH vm₁ → Pre ⟨T.setVm vm₁, locs, cells, slots⟩ (Value.ref b :: argsL).toArray) :
    (∃ (v : Option Value) (vm₁ : Vm) (B : Pt), s.WarmedH vm₁ ∧ Stand p l e R s m args below meth c B.U B.locs B.cells B.slots ∧ Post ⟨T.setVm vm₁, locs, cells, slots⟩ (Value.ref b :: argsL).toArray v B ∧
      ∀ target, Steps p.tables e below (B.U.setTop { g with pc := g.pc + 3, stack := v.toList ++ rest }) target → Steps p.tables e below (T.setTop g) target) ∨
    (∃ (q : Addr) (vm₁ : Vm) (B : Pt), s.WarmedH vm₁ ∧ Stand p l e R s m args below meth c B.U B.locs B.cells B.slots ∧ PostX ⟨T.setVm vm₁, locs, cells, slots⟩ (Value.ref b :: argsL).toArray q B ∧
      Steps p.tables e below (T.setTop g) ((B.U.setTop { g with stack := rest }).pushFrame (.throwing q))) := by
  obtain ⟨mk, methM, hnamed, hmethM, hstM, habM⟩ := Cond.instanceMethod_spec hinst
  obtain ⟨methM', cM, hmethM', -, -, -, -, -, -, hsigM⟩ := Cond.code_spec hnamed hcode
  cases hmethM.symm.trans hmethM'
  obtain ⟨c2, r2, m2, q1, q2, q3, q4, kP, hkP, hkPi⟩ := Cond.selects_spec hsel
  cases hcls.symm.trans q1
  cases (State.methodFound?_of_named hnamed hy).symm.trans q2
  cases hnamed.symm.trans q3
  have hselP : selectMethod e.platform s.vm cellB.cls mk = .method mk := by rw [Launch.admits_selectMethod X.admits]; exact q4
  obtain ⟨vm₁, X₁, hstep₁⟩ := X.invokevirtual hexec hown hlink hnamed hmethM hstM hkP hkPi hy (a := b) (cell := cellB) hcell
    (fun z h => by rw [h] at hobj; cases hobj) hselP hmethM habM hkP hkPi (g := g) hg (argsL := argsL) (rest := rest) (hlen _ hsigM) hstack hdg
  rcases hK m meth c ⟨T.setVm vm₁, locs, cells, slots⟩ { g with stack := rest } (.invokevirtual index) mk (Value.ref b :: argsL).toArray X₁ hg hsize hdg hW (X₁.named hnamed) (hpre vm₁ X₁.warmed) with ⟨v, B, X', hpost, hsteps⟩ | ⟨q, B, X', hpost, hsteps⟩
  · exact Or.inl ⟨v, vm₁, B, X₁.warmed, X', hpost, fun target h => hstep₁ _ fun acts => by rw [doInvoke_state]; exact hsteps.trans h⟩
  · exact Or.inr ⟨q, vm₁, B, X₁.warmed, X', hpost, hstep₁ _ fun acts => by rw [doInvoke_state]; exact hsteps⟩
theorem vx_callS (X : Stand p l e R s m args below meth c T locs cells slots) (hexec : p.tables.exec = Jvm.exec) {own : String} {index : Nat} {y : MethodName} {bytes : ByteArray} {maxL : Nat} {ret : Option FieldType}
    (hown : s.vm.findClass own = some m.cls) (hlink : (Cond.methodLink own index y).before args s = true) (hstat : (Cond.static y).before args s = true) (hinit : (Cond.initialized y.cls).before args s = true)
    (hcode : (Cond.code y bytes maxL ret).before args s = true) (hy : y.cls ≠ "java/lang/invoke/MethodHandle" ∧ y.cls ≠ "java/lang/invoke/VarHandle")
    {W9 : Nat} {Pre : Pt → Array Value → Prop} {Post : Pt → Array Value → Option Value → Pt → Prop} {PostX : Pt → Array Value → Addr → Pt → Prop} (hK : vx_Back l R p e below s args y 3 W9 Pre Post PostX)
    {g : JFrame} (hg : g.method = m) (hsize : g.locals.size = c.maxLocals) {argsL rest : List Value} (hlen : ∀ sig, parseMethodDescriptor y.desc = some sig → argsL.length = sig.parameters.length)
    (hstack : g.stack = argsL.reverse ++ rest) (hW : 2 * g.monitorRoom + (rest.map fun v => v.category).sum ≤ W9) (hdg : decode c.code g.pc = .ok (.invokestatic index, 3))
    (hpre : ∀ vm₁, s.WarmedH vm₁ → Pre ⟨T.setVm vm₁, locs, cells, slots⟩ argsL.toArray) :
    (∃ (v : Option Value) (vm₁ : Vm) (B : Pt), s.WarmedH vm₁ ∧ Stand p l e R s m args below meth c B.U B.locs B.cells B.slots ∧ Post ⟨T.setVm vm₁, locs, cells, slots⟩ argsL.toArray v B ∧
      ∀ target, Steps p.tables e below (B.U.setTop { g with pc := g.pc + 3, stack := v.toList ++ rest }) target → Steps p.tables e below (T.setTop g) target) ∨
    (∃ (q : Addr) (vm₁ : Vm) (B : Pt), s.WarmedH vm₁ ∧ Stand p l e R s m args below meth c B.U B.locs B.cells B.slots ∧ PostX ⟨T.setVm vm₁, locs, cells, slots⟩ argsL.toArray q B ∧
      Steps p.tables e below (T.setTop g) ((B.U.setTop { g with stack := rest }).pushFrame (.throwing q))) := by
  obtain ⟨mk, hnamed⟩ := Cond.code_named hcode
  obtain ⟨methM, cM, hmethM, -, -, -, -, -, -, hsigM⟩ := Cond.code_spec hnamed hcode
  have hstatic : methM.isStatic = true := Cond.static_spec hnamed hmethM hstat
  obtain ⟨kP, hkP, -⟩ := className_of_methodNamed hnamed
  have hinitP : kP.init = .initialized := Cond.initialized_spec (findClass_of_methodNamed hnamed) hkP hinit
  obtain ⟨vm₁, X₁, hstep₁⟩ := X.invokestatic hexec hown hlink hnamed hmethM hstatic hkP hinitP hy (g := g) hg (argsL := argsL) (rest := rest) (hlen _ hsigM) hstack hdg
  rcases hK m meth c ⟨T.setVm vm₁, locs, cells, slots⟩ { g with stack := rest } (.invokestatic index) mk argsL.toArray X₁ hg hsize hdg hW (X₁.named hnamed) (hpre vm₁ X₁.warmed) with ⟨v, B, X', hpost, hsteps⟩ | ⟨q, B, X', hpost, hsteps⟩
  · exact Or.inl ⟨v, vm₁, B, X₁.warmed, X', hpost, fun target h => hstep₁ _ fun acts => by rw [doInvoke_state]; exact hsteps.trans h⟩
  · exact Or.inr ⟨q, vm₁, B, X₁.warmed, X', hpost, hstep₁ _ fun acts => by rw [doInvoke_state]; exact hsteps⟩
end Calls
theorem vx_cls {s : State} {T : State} {vm₁ : Vm} {E : String} {k : ClassId} (hW : s.WarmedH vm₁) (h : (T.setVm vm₁).vm.findClass E = some k) : s.vm.findClass E = some k := by
  have h1 : vm₁.findClass E = some k := h
  rw [hW.alike.findClass] at h1
  exact h1
/-- the method's frame g, with q thrown over it -/
def vx_W (p : Program) (l : Launch) (e : Env) (R : Room) (s : State) (m : MethodId) (args : Array Value) (below : List Frame) (meth : Method) (c : Code) (H : Heap) (locs : List Loc) (cells slots : Nat) (Q : State → Prop) (g : JFrame) (q : Addr) : Prop :=
  ∀ T : State, T.heap = H → Stand p l e R s m args below meth c T locs cells slots → ∃ t, Steps p.tables e below ((T.setTop g).pushFrame (.throwing q)) t ∧ Q t
def vx_Run (p : Program) (l : Launch) (e : Env) (R : Room) (s : State) (m : MethodId) (args : Array Value) (below : List Frame) (meth : Method) (c : Code) (H : Heap) (locs : List Loc) (cells slots mc ms : Nat) (g : JFrame) (rest : List Value) (Qa : State → Outcome → State → Prop) (XC : String → State → State → Prop) (free : Addr → Prop) : Prop :=
  ∀ T : State, T.heap = H → Stand p l e R s m args below meth c T locs cells slots →
    (∃ (v : Option Value) (st₀ t T' : State) (L : List Loc), st₀.heap = H ∧ Stand p l e R s m args below meth c T' (locs ++ L) (cells + mc) (slots + ms) ∧ (∀ q ∈ L, free q.base) ∧ T'.heap = t.heap ∧ T'.vm = t.vm ∧ Qa st₀ (.returned v) t ∧
      Goes p e below T g T' { g with pc := g.pc + 3, stack := v.toList ++ rest }) ∨
    (∃ (q : Addr) (st₀ t T' : State) (L : List Loc) (E : String) (ce : Cell), st₀.heap = H ∧ Stand p l e R s m args below meth c T' (locs ++ L) (cells + mc) (slots + ms) ∧ (∀ z ∈ L, free z.base) ∧ T'.heap = t.heap ∧ T'.vm = t.vm ∧ XC E st₀ t ∧ t.heap[q]? = some ce ∧ ce.vm = .none ∧ s.vm.findClass E = some ce.cls ∧
      Steps p.tables e below (T.setTop g) ((T'.setTop { g with stack := rest }).pushFrame (.throwing q)))
def vx_X {S : Type} (px : S → Prop) (B : String → S → State → Prop) (A : Nat → Prop) : String → State → State → Prop := fun E st t => ∃ u : S, px u ∧ B E u t ∧ va_F A st t
section Runs
variable {p : Program} {l : Launch} {e : Env} {R : Room} {s : State} {m : MethodId} {args : Array Value} {below : List Frame} {meth : Method} {c : Code} {H : Heap} {locs : List Loc} {cells slots : Nat}
variable {y : MethodName} {bytes cc : ByteArray} {maxL nL mc ms n index : Nat} {ret : Option FieldType} {ws : List Cond} {rm : Room} {Pc : Array Value → State → Prop} {Qc : Array Value → State → Outcome → State → Prop} {XC : String → State → State → Prop} {free : Addr → Prop} {Ts : List Cond} {own C : String} {b : Addr} {As rest : List Value} {g : JFrame}
theorem vx_callBack (cb : CallB R s args own index y bytes maxL ret ws rm mc ms n) (hM : vx_Met l y ws rm Pc Qc XC mc ms free) (hbl : FrameBlind Pc) : vx_Back l R p e below s args y 3 8 (PreOf R mc ms Pc) (PostOf Qc mc ms free) (vx_Post XC mc ms free) := by
  obtain ⟨hrc, hrs, hfr, hlo, hws, hcw, -, hini, -⟩ := cb
  exact vx_back (bytes := bytes) (maxL := maxL) (ret := ret) hM hbl hrc hrs hfr hlo hws hcw (fun a' U hW => word_at hW (Or.inl (by first | rfl | simp [Cond.onTables, Cond.keeps, Cond.steady])) hini)
theorem vx_runV (S : CallFix p m c cc nL s args Ts own) (hM : vx_Met l y ws rm Pc Qc XC mc ms free) (cw : CallW R s args own C index y bytes maxL ret ws rm mc ms n) (hp : PreV s H C b Pc As)
    (hg : g.method = m) (hn : As.length = n) (hsize : g.locals.size = nL) (hstack : g.stack = As.reverse ++ .ref b :: rest) (hW : 2 * g.monitorRoom + (rest.map fun v => v.category).sum ≤ 8) (hdg : decode cc g.pc = .ok (.invokevirtual index, 3)) (hf : cells + mc ≤ R.cells ∧ slots + ms ≤ R.slots) :
    vx_Run p l e R s m args below meth c H locs cells slots mc ms g rest (Qc (Value.ref b :: As).toArray) XC free := by
  have hK : vx_Back l R p e below s args y 3 8 (PreOf R mc ms Pc) (PostOf Qc mc ms free) (vx_Post XC mc ms free) := vx_callBack cw.1 hM hp.1
  obtain ⟨⟨-, -, -, -, -, -, hcode, -, hy, hlen, hl⟩, hin, hse⟩ := cw
  obtain ⟨hx, hb, hml, ho, -⟩ := S
  obtain ⟨-, ⟨cellB, hcB, hoB, hclB⟩, hPc⟩ := hp
  intro T hT X
  rcases vx_callV X hx (C := C) (bytes := bytes) (maxL := maxL) (ret := ret) ho hl hin hse hcode hy hK (by rw [hT]; exact hcB) hoB hclB hg (hsize.trans hml.symm) (argsL := As) (rest := rest) (fun sig h => hn.trans (hlen sig h)) hstack hW (by rw [hb]; exact hdg)
    (fun vm₁ hW₁ => ⟨hf.1, hf.2, hPc (T.setVm vm₁) hT hW₁⟩) with ⟨v, vm₁, ⟨U', l2, c2, s2⟩, hW₁, X', ⟨g', mk, t, L, e1, e2, hq, h1, hL, h2, h3⟩, st⟩ | ⟨q, vm₁, ⟨U', l2, c2, s2⟩, hW₁, X', ⟨g', mk, t, L, E, ce, e1, e2, hq, hce, hcv, hcl, h1, hL, h2, h3⟩, st⟩
  · dsimp only [Pt.U, Pt.locs, Pt.cells, Pt.slots] at X' e1 e2 h1 h2 h3 st
    subst h1; subst h2; subst h3
    exact Or.inl ⟨v, (T.setVm vm₁).calling g' mk (Value.ref b :: As).toArray, t, U', L, hT, X', hL, e1, e2, hq, st⟩
  · dsimp only [Pt.U, Pt.locs, Pt.cells, Pt.slots] at X' e1 e2 h1 h2 h3 st hcl
    subst h1; subst h2; subst h3
    exact Or.inr ⟨q, (T.setVm vm₁).calling g' mk (Value.ref b :: As).toArray, t, U', L, E, ce, hT, X', hL, e1, e2, hq, hce, hcv, vx_cls hW₁ hcl, st⟩
theorem vx_runS (S : CallFix p m c cc nL s args Ts own) (hM : vx_Met l y ws rm Pc Qc XC mc ms free) (cw : CallB R s args own index y bytes maxL ret ws rm mc ms n ∧ (Cond.static y).before args s = true) (hp : PreS s H Pc As)
    (hg : g.method = m) (hn : As.length = n) (hsize : g.locals.size = nL) (hstack : g.stack = As.reverse ++ rest) (hW : 2 * g.monitorRoom + (rest.map fun v => v.category).sum ≤ 8) (hdg : decode cc g.pc = .ok (.invokestatic index, 3)) (hf : cells + mc ≤ R.cells ∧ slots + ms ≤ R.slots) :
    vx_Run p l e R s m args below meth c H locs cells slots mc ms g rest (Qc As.toArray) XC free := by
  have hK : vx_Back l R p e below s args y 3 8 (PreOf R mc ms Pc) (PostOf Qc mc ms free) (vx_Post XC mc ms free) := vx_callBack cw.1 hM hp.1
  obtain ⟨⟨-, -, -, -, -, -, hcode, hini, hy, hlen, hl⟩, hstt⟩ := cw
  obtain ⟨hx, hb, hml, ho, -⟩ := S
  intro T hT X
  rcases vx_callS X hx (bytes := bytes) (maxL := maxL) (ret := ret) ho hl hstt hini hcode hy hK hg (hsize.trans hml.symm) (argsL := As) (rest := rest) (fun sig h => hn.trans (hlen sig h)) hstack hW (by rw [hb]; exact hdg)
    (fun vm₁ hW₁ => ⟨hf.1, hf.2, hp.2 (T.setVm vm₁) hT hW₁⟩) with ⟨v, vm₁, ⟨U', l2, c2, s2⟩, hW₁, X', ⟨g', mk, t, L, e1, e2, hq, h1, hL, h2, h3⟩, st⟩ | ⟨q, vm₁, ⟨U', l2, c2, s2⟩, hW₁, X', ⟨g', mk, t, L, E, ce, e1, e2, hq, hce, hcv, hcl, h1, hL, h2, h3⟩, st⟩
  · dsimp only [Pt.U, Pt.locs, Pt.cells, Pt.slots] at X' e1 e2 h1 h2 h3 st
    subst h1; subst h2; subst h3
    exact Or.inl ⟨v, (T.setVm vm₁).calling g' mk As.toArray, t, U', L, hT, X', hL, e1, e2, hq, st⟩
  · dsimp only [Pt.U, Pt.locs, Pt.cells, Pt.slots] at X' e1 e2 h1 h2 h3 st hcl
    subst h1; subst h2; subst h3
    exact Or.inr ⟨q, (T.setVm vm₁).calling g' mk As.toArray, t, U', L, E, ce, hT, X', hL, e1, e2, hq, hce, hcv, vx_cls hW₁ hcl, st⟩
end Runs
section Rows
variable {p : Program} {l : Launch} {e : Env} {R : Room} {s : State} {m : MethodId} {args : Array Value} {below : List Frame} {meth : Method} {c : Code} {H : Heap} {locs : List Loc} {cells slots : Nat} {Q : State → Prop}
variable {mc ms : Nat} {free : Addr → Prop} {A0 A1 : Nat → Prop} {H0 : Heap} {a : Array Value} {pc : Nat} {ls : Array Slot} {st0 rest : List Value}
theorem vx_keep {st₀ t T' : State} {L : List Loc} (h0 : st₀.heap = H) (e1 : T'.heap = t.heap) (hS : va_S A0 H0 H locs) (hA : ∀ q, q < H.size → A1 q → A0 q) (hf : ∀ q, free q → A0 q) (hL : ∀ q ∈ L, free q.base) (hF : va_F A1 st₀ t) :
    H.size ≤ T'.heap.size ∧ (∀ q : Nat, q < H.size → ¬ A1 q → T'.heap[q]? = H[q]?) ∧ va_S A0 H0 T'.heap (locs ++ L) := by
  obtain ⟨hz, hk⟩ := hF
  rw [h0] at hz hk
  exact ⟨by rw [e1]; exact hz, fun q h1 h2 => by rw [e1]; exact hk q h1 h2,
    ⟨Nat.le_trans hS.1 (by rw [e1]; exact hz), fun q h1 h2 => by rw [e1, hk q (Nat.lt_of_lt_of_le h1 hS.1) (fun z => h2 (hA q (Nat.lt_of_lt_of_le h1 hS.1) z))]; exact hS.2.1 q h1 h2, fun q hq => by
      rcases List.mem_append.mp hq with h | h
      · exact hS.2.2 q h
      · exact hf _ (hL q h)⟩⟩
theorem vx_calli {S SX : Type} {post : Int32 → S → Prop} {px : SX → Prop} {B : S → State → Prop} {BX : String → SX → State → Prop} {AX : Nat → Prop} (hr : vx_Run p l e R s m args below meth c H locs cells slots mc ms (F0 m pc ls st0) rest (va_Qi post B A1 a) (vx_X px BX AX) free) (hS : va_S A0 H0 H locs) (hA : ∀ q, q < H.size → A1 q → A0 q) (hf : ∀ q, free q → A0 q) (hAX : ∀ q, q < H.size → AX q → A0 q)
    (kx : ∀ (E : String) (ce : Cell) (q9 : Addr) (u : SX) (t : State) (H1 : Heap) (locs1 : List Loc), t.heap = H1 → s.vm.Alike t.vm → px u → BX E u t → H.size ≤ H1.size → (∀ q : Nat, q < H.size → ¬ AX q → H1[q]? = H[q]?) → va_S A0 H0 H1 locs1 → H1[q9]? = some ce → ce.vm = .none → s.vm.findClass E = some ce.cls → vx_W p l e R s m args below meth c H1 locs1 (cells + mc) (slots + ms) Q (F0 m pc ls rest) q9)
    (kk : ∀ (r : Int32) (u : S) (t : State) (H1 : Heap) (locs1 : List Loc), t.heap = H1 → s.vm.Alike t.vm → post r u → B u t → H.size ≤ H1.size → (∀ q : Nat, q < H.size → ¬ A1 q → H1[q]? = H[q]?) → va_S A0 H0 H1 locs1 → W p l e R s m args below meth c H1 locs1 (cells + mc) (slots + ms) Q (F0 m (pc + 3) ls (.int r :: rest))) : W p l e R s m args below meth c H locs cells slots Q (F0 m pc ls st0) := by
  intro T hT X
  rcases hr T hT X with ⟨v, st₀, t, T', L, h0, X', hL, e1, e2, ⟨⟨r, u, hv, hp, hb⟩, hF⟩, st⟩ | ⟨q, st₀, t, T', L, E, ce, h0, X', hL, e1, e2, ⟨u, hp, hb, hF⟩, hce, hcv, hcl, st⟩
  · cases hv
    obtain ⟨k1, k2, k3⟩ := vx_keep h0 e1 hS hA hf hL hF
    obtain ⟨t2, a1, b1⟩ := kk r u t T'.heap (locs ++ L) e1.symm (by rw [← e2]; exact X'.warmed.alike) hp hb k1 k2 k3 T' rfl X'
    exact ⟨t2, st t2 a1, b1⟩
  · obtain ⟨k1, k2, k3⟩ := vx_keep h0 e1 hS hAX hf hL hF
    obtain ⟨t2, a1, b1⟩ := kx E ce q u t T'.heap (locs ++ L) e1.symm (by rw [← e2]; exact X'.warmed.alike) hp hb k1 k2 k3 (by rw [e1]; exact hce) hcv hcl T' rfl X'
    exact ⟨t2, st.trans a1, b1⟩
theorem vx_calll {S SX : Type} {post : Int64 → S → Prop} {px : SX → Prop} {B : S → State → Prop} {BX : String → SX → State → Prop} {AX : Nat → Prop} (hr : vx_Run p l e R s m args below meth c H locs cells slots mc ms (F0 m pc ls st0) rest (va_Ql post B A1 a) (vx_X px BX AX) free) (hS : va_S A0 H0 H locs) (hA : ∀ q, q < H.size → A1 q → A0 q) (hf : ∀ q, free q → A0 q) (hAX : ∀ q, q < H.size → AX q → A0 q)
    (kx : ∀ (E : String) (ce : Cell) (q9 : Addr) (u : SX) (t : State) (H1 : Heap) (locs1 : List Loc), t.heap = H1 → s.vm.Alike t.vm → px u → BX E u t → H.size ≤ H1.size → (∀ q : Nat, q < H.size → ¬ AX q → H1[q]? = H[q]?) → va_S A0 H0 H1 locs1 → H1[q9]? = some ce → ce.vm = .none → s.vm.findClass E = some ce.cls → vx_W p l e R s m args below meth c H1 locs1 (cells + mc) (slots + ms) Q (F0 m pc ls rest) q9)
    (kk : ∀ (r : Int64) (u : S) (t : State) (H1 : Heap) (locs1 : List Loc), t.heap = H1 → s.vm.Alike t.vm → post r u → B u t → H.size ≤ H1.size → (∀ q : Nat, q < H.size → ¬ A1 q → H1[q]? = H[q]?) → va_S A0 H0 H1 locs1 → W p l e R s m args below meth c H1 locs1 (cells + mc) (slots + ms) Q (F0 m (pc + 3) ls (.long r :: rest))) : W p l e R s m args below meth c H locs cells slots Q (F0 m pc ls st0) := by
  intro T hT X
  rcases hr T hT X with ⟨v, st₀, t, T', L, h0, X', hL, e1, e2, ⟨⟨r, u, hv, hp, hb⟩, hF⟩, st⟩ | ⟨q, st₀, t, T', L, E, ce, h0, X', hL, e1, e2, ⟨u, hp, hb, hF⟩, hce, hcv, hcl, st⟩
  · cases hv
    obtain ⟨k1, k2, k3⟩ := vx_keep h0 e1 hS hA hf hL hF
    obtain ⟨t2, a1, b1⟩ := kk r u t T'.heap (locs ++ L) e1.symm (by rw [← e2]; exact X'.warmed.alike) hp hb k1 k2 k3 T' rfl X'
    exact ⟨t2, st t2 a1, b1⟩
  · obtain ⟨k1, k2, k3⟩ := vx_keep h0 e1 hS hAX hf hL hF
    obtain ⟨t2, a1, b1⟩ := kx E ce q u t T'.heap (locs ++ L) e1.symm (by rw [← e2]; exact X'.warmed.alike) hp hb k1 k2 k3 (by rw [e1]; exact hce) hcv hcl T' rfl X'
    exact ⟨t2, st.trans a1, b1⟩
theorem vx_callf {S SX : Type} {post : UInt32 → S → Prop} {px : SX → Prop} {B : S → State → Prop} {BX : String → SX → State → Prop} {AX : Nat → Prop} (hr : vx_Run p l e R s m args below meth c H locs cells slots mc ms (F0 m pc ls st0) rest (va_Qf post B A1 a) (vx_X px BX AX) free) (hS : va_S A0 H0 H locs) (hA : ∀ q, q < H.size → A1 q → A0 q) (hf : ∀ q, free q → A0 q) (hAX : ∀ q, q < H.size → AX q → A0 q)
    (kx : ∀ (E : String) (ce : Cell) (q9 : Addr) (u : SX) (t : State) (H1 : Heap) (locs1 : List Loc), t.heap = H1 → s.vm.Alike t.vm → px u → BX E u t → H.size ≤ H1.size → (∀ q : Nat, q < H.size → ¬ AX q → H1[q]? = H[q]?) → va_S A0 H0 H1 locs1 → H1[q9]? = some ce → ce.vm = .none → s.vm.findClass E = some ce.cls → vx_W p l e R s m args below meth c H1 locs1 (cells + mc) (slots + ms) Q (F0 m pc ls rest) q9)
    (kk : ∀ (r : UInt32) (u : S) (t : State) (H1 : Heap) (locs1 : List Loc), t.heap = H1 → s.vm.Alike t.vm → post r u → B u t → H.size ≤ H1.size → (∀ q : Nat, q < H.size → ¬ A1 q → H1[q]? = H[q]?) → va_S A0 H0 H1 locs1 → W p l e R s m args below meth c H1 locs1 (cells + mc) (slots + ms) Q (F0 m (pc + 3) ls (.float r :: rest))) : W p l e R s m args below meth c H locs cells slots Q (F0 m pc ls st0) := by
  intro T hT X
  rcases hr T hT X with ⟨v, st₀, t, T', L, h0, X', hL, e1, e2, ⟨⟨r, u, hv, hp, hb⟩, hF⟩, st⟩ | ⟨q, st₀, t, T', L, E, ce, h0, X', hL, e1, e2, ⟨u, hp, hb, hF⟩, hce, hcv, hcl, st⟩
  · cases hv
    obtain ⟨k1, k2, k3⟩ := vx_keep h0 e1 hS hA hf hL hF
    obtain ⟨t2, a1, b1⟩ := kk r u t T'.heap (locs ++ L) e1.symm (by rw [← e2]; exact X'.warmed.alike) hp hb k1 k2 k3 T' rfl X'
    exact ⟨t2, st t2 a1, b1⟩
  · obtain ⟨k1, k2, k3⟩ := vx_keep h0 e1 hS hAX hf hL hF
    obtain ⟨t2, a1, b1⟩ := kx E ce q u t T'.heap (locs ++ L) e1.symm (by rw [← e2]; exact X'.warmed.alike) hp hb k1 k2 k3 (by rw [e1]; exact hce) hcv hcl T' rfl X'
    exact ⟨t2, st.trans a1, b1⟩
theorem vx_calld {S SX : Type} {post : UInt64 → S → Prop} {px : SX → Prop} {B : S → State → Prop} {BX : String → SX → State → Prop} {AX : Nat → Prop} (hr : vx_Run p l e R s m args below meth c H locs cells slots mc ms (F0 m pc ls st0) rest (va_Qd post B A1 a) (vx_X px BX AX) free) (hS : va_S A0 H0 H locs) (hA : ∀ q, q < H.size → A1 q → A0 q) (hf : ∀ q, free q → A0 q) (hAX : ∀ q, q < H.size → AX q → A0 q)
    (kx : ∀ (E : String) (ce : Cell) (q9 : Addr) (u : SX) (t : State) (H1 : Heap) (locs1 : List Loc), t.heap = H1 → s.vm.Alike t.vm → px u → BX E u t → H.size ≤ H1.size → (∀ q : Nat, q < H.size → ¬ AX q → H1[q]? = H[q]?) → va_S A0 H0 H1 locs1 → H1[q9]? = some ce → ce.vm = .none → s.vm.findClass E = some ce.cls → vx_W p l e R s m args below meth c H1 locs1 (cells + mc) (slots + ms) Q (F0 m pc ls rest) q9)
    (kk : ∀ (r : UInt64) (u : S) (t : State) (H1 : Heap) (locs1 : List Loc), t.heap = H1 → s.vm.Alike t.vm → post r u → B u t → H.size ≤ H1.size → (∀ q : Nat, q < H.size → ¬ A1 q → H1[q]? = H[q]?) → va_S A0 H0 H1 locs1 → W p l e R s m args below meth c H1 locs1 (cells + mc) (slots + ms) Q (F0 m (pc + 3) ls (.double r :: rest))) : W p l e R s m args below meth c H locs cells slots Q (F0 m pc ls st0) := by
  intro T hT X
  rcases hr T hT X with ⟨v, st₀, t, T', L, h0, X', hL, e1, e2, ⟨⟨r, u, hv, hp, hb⟩, hF⟩, st⟩ | ⟨q, st₀, t, T', L, E, ce, h0, X', hL, e1, e2, ⟨u, hp, hb, hF⟩, hce, hcv, hcl, st⟩
  · cases hv
    obtain ⟨k1, k2, k3⟩ := vx_keep h0 e1 hS hA hf hL hF
    obtain ⟨t2, a1, b1⟩ := kk r u t T'.heap (locs ++ L) e1.symm (by rw [← e2]; exact X'.warmed.alike) hp hb k1 k2 k3 T' rfl X'
    exact ⟨t2, st t2 a1, b1⟩
  · obtain ⟨k1, k2, k3⟩ := vx_keep h0 e1 hS hAX hf hL hF
    obtain ⟨t2, a1, b1⟩ := kx E ce q u t T'.heap (locs ++ L) e1.symm (by rw [← e2]; exact X'.warmed.alike) hp hb k1 k2 k3 (by rw [e1]; exact hce) hcv hcl T' rfl X'
    exact ⟨t2, st.trans a1, b1⟩
theorem vx_callv {S SX : Type} {post : S → Prop} {px : SX → Prop} {B : S → State → Prop} {BX : String → SX → State → Prop} {AX : Nat → Prop} (hr : vx_Run p l e R s m args below meth c H locs cells slots mc ms (F0 m pc ls st0) rest (va_Qv post B A1 a) (vx_X px BX AX) free) (hS : va_S A0 H0 H locs) (hA : ∀ q, q < H.size → A1 q → A0 q) (hf : ∀ q, free q → A0 q) (hAX : ∀ q, q < H.size → AX q → A0 q)
    (kx : ∀ (E : String) (ce : Cell) (q9 : Addr) (u : SX) (t : State) (H1 : Heap) (locs1 : List Loc), t.heap = H1 → s.vm.Alike t.vm → px u → BX E u t → H.size ≤ H1.size → (∀ q : Nat, q < H.size → ¬ AX q → H1[q]? = H[q]?) → va_S A0 H0 H1 locs1 → H1[q9]? = some ce → ce.vm = .none → s.vm.findClass E = some ce.cls → vx_W p l e R s m args below meth c H1 locs1 (cells + mc) (slots + ms) Q (F0 m pc ls rest) q9)
    (kk : ∀ (u : S) (t : State) (H1 : Heap) (locs1 : List Loc), t.heap = H1 → s.vm.Alike t.vm → post u → B u t → H.size ≤ H1.size → (∀ q : Nat, q < H.size → ¬ A1 q → H1[q]? = H[q]?) → va_S A0 H0 H1 locs1 → W p l e R s m args below meth c H1 locs1 (cells + mc) (slots + ms) Q (F0 m (pc + 3) ls (rest))) : W p l e R s m args below meth c H locs cells slots Q (F0 m pc ls st0) := by
  intro T hT X
  rcases hr T hT X with ⟨v, st₀, t, T', L, h0, X', hL, e1, e2, ⟨⟨u, hv, hp, hb⟩, hF⟩, st⟩ | ⟨q, st₀, t, T', L, E, ce, h0, X', hL, e1, e2, ⟨u, hp, hb, hF⟩, hce, hcv, hcl, st⟩
  · cases hv
    obtain ⟨k1, k2, k3⟩ := vx_keep h0 e1 hS hA hf hL hF
    obtain ⟨t2, a1, b1⟩ := kk u t T'.heap (locs ++ L) e1.symm (by rw [← e2]; exact X'.warmed.alike) hp hb k1 k2 k3 T' rfl X'
    exact ⟨t2, st t2 a1, b1⟩
  · obtain ⟨k1, k2, k3⟩ := vx_keep h0 e1 hS hAX hf hL hF
    obtain ⟨t2, a1, b1⟩ := kx E ce q u t T'.heap (locs ++ L) e1.symm (by rw [← e2]; exact X'.warmed.alike) hp hb k1 k2 k3 (by rw [e1]; exact hce) hcv hcl T' rfl X'
    exact ⟨t2, st.trans a1, b1⟩
/-- caught by the row x of this method's table; the rows ahead don't take it -/
theorem vx_catch {own name : String} {E : String} {ce : Cell} {q : Addr} (hown : s.vm.findClass own = some m.cls) (pre : List ExceptionTableEntry) (x : ExceptionTableEntry) (suf : List ExceptionTableEntry) (hsplit : c.exceptionTable.toList = pre ++ x :: suf)
    (hpass : ∀ z ∈ pre, covers z pc = false ∨ (z.catchType ≠ 0 ∧ ∃ nm : String, (Cond.classLink own z.catchType nm).before args s = true ∧ va_Nc E nm s)) (hx : covers x pc = true) (h0 : x.catchType ≠ 0)
    (hlink : (Cond.classLink own x.catchType name).before args s = true) (hcast : (Cond.castable E name).before args s = true) (hcell : H[q]? = some ce) (hv : ce.vm = .none) (hcl : s.vm.findClass E = some ce.cls)
    (kk : W p l e R s m args below meth c H locs cells slots Q (F0 m x.handlerPc ls [.ref q])) : vx_W p l e R s m args below meth c H locs cells slots Q (F0 m pc ls rest) q := by
  intro T hT X
  have hpl : e.platform.magicAccessors = ({} : Platform).magicAccessors := by rw [X.admits.platform]
  obtain ⟨c3, c4, hc3, hc4, hasg⟩ := Cond.castable_spec hcast
  cases Option.some.inj (hc3.symm.trans hcl)
  obtain ⟨c5, hc5, hcl5⟩ := Cond.classLink_spec hown hlink e.platform hpl
  cases Option.some.inj (hc4.symm.trans hc5)
  obtain ⟨vm', X', st⟩ := X.thenCaughtThrough q (g := F0 m pc ls rest) rfl (Steps.refl _) (by rw [hT]; exact hcell) (by rw [hv]; rfl) (by obtain ⟨k9, h9, -⟩ := Vm.findClass_spec hcl; exact ⟨k9, h9⟩) pre x suf hsplit
    (fun z hz => by
      rcases hpass z hz with h | ⟨hz0, nm, hl1, hn1⟩
      · exact Or.inl h
      · obtain ⟨c6, hc6, hcl6⟩ := Cond.classLink_spec hown hl1 e.platform hpl
        obtain ⟨a8, b8, h1, h2, h3⟩ := hn1
        cases Option.some.inj (h1.symm.trans hcl)
        cases Option.some.inj (h2.symm.trans hc6)
        exact Or.inr ⟨hz0, _, hcl6, h3⟩) hx (Or.inr ⟨h0, c4, hcl5, hasg⟩)
  obtain ⟨t, a1, b1⟩ := kk (T.setVm vm') hT X'
  exact ⟨t, st.trans a1, b1⟩
end Rows
section Ends
variable {p : Program} {l : Launch} {e : Env} {R : Room} {s : State} {m : MethodId} {args : Array Value} {below : List Frame} {meth : Method} {c : Code} {H : Heap} {locs : List Loc} {cells slots : Nat} {Q : State → Prop}
variable {mc ms : Nat} {free : Addr → Prop} {A0 A1 : Nat → Prop} {H0 : Heap} {a : Array Value} {ls : Array Slot} {st0 rest : List Value}
variable {Qc : Array Value → State → Outcome → State → Prop} {XC : String → State → State → Prop}
/-- what a body that may throw owes at its end -/
def vx_MQ (below : List Frame) (Qc : Array Value → State → Outcome → State → Prop) (XC : String → State → State → Prop) (a : Array Value) (s : State) (mc ms : Nat) (free : Addr → Prop) : State → Prop := fun t =>
  ∃ o, t.status = .running ∧ Ended t below o ∧ vx_Q Qc XC mc ms free a s o t
theorem vx_ret {g : JFrame} {mc ms : Nat} (k : W p l e R s m args below meth c H locs cells slots (MQ below Qc args s mc ms free) g) : W p l e R s m args below meth c H locs cells slots (vx_MQ below Qc XC args s mc ms free) g := by
  intro T hT X
  obtain ⟨t, a1, o, b1, b2, b3, b4⟩ := k T hT X
  exact ⟨t, a1, o, b1, b2, Or.inl ⟨b3, b4⟩⟩
/-- not caught here: it goes on to the caller -/
theorem vx_widen {g : JFrame} {q : Addr} {k n : Nat} (h1 : cells ≤ k) (h2 : slots ≤ n) (kk : vx_W p l e R s m args below meth c H locs k n Q g q) : vx_W p l e R s m args below meth c H locs cells slots Q g q := fun T hT X => kk T hT (stand_widen X h1 h2)
theorem vx_out {pc : Nat} {E : String} {ce : Cell} {q : Addr} {mc ms : Nat} (hout : ∀ x ∈ c.exceptionTable.toList, covers x pc = false) (hlocks : meth.locks = false) (hcell : H[q]? = some ce) (hv : ce.vm = .none) (hcl : s.vm.findClass E = some ce.cls)
    (hx : ∀ t : State, t.heap = H → s.vm.Alike t.vm → XC E s t) (hf : ∀ z ∈ locs, free z.base) (hc : cells ≤ mc) (hs : slots ≤ ms) :
    vx_W p l e R s m args below meth c H locs cells slots (vx_MQ below Qc XC args s mc ms free) (F0 m pc ls rest) q := by
  intro T hT X
  obtain ⟨st1, hrun, hend, hW, hsm⟩ := X.leaveThrown q (g := F0 m pc ls rest) rfl rfl rfl hout hlocks
  have hcell9 : (T.setFrames (.throwing q :: below)).heap[q]? = some ce := by
    show T.heap[q]? = some ce
    rw [hT]; exact hcell
  exact ⟨_, st1, .threw q, hrun, hend, Or.inr ⟨q, rfl, E, ce, locs, hx _ hT hW.alike, hcell9, hv, hcl, hW, hsm.mono hc hs, hf⟩⟩
theorem vx_frame {U : State} {k n : Nat} (h : s.sameButNew ({ U with vm := s.vm } : State) locs k n) : s.heap.size ≤ U.heap.size ∧ ∀ q : Nat, q < s.heap.size → (∀ z ∈ locs, z.base ≠ q) → U.heap[q]? = s.heap[q]? := by
  obtain ⟨-, h2, -, -, -, h6⟩ := h
  refine ⟨h2, fun q hq hz => ?_⟩
  obtain ⟨c9, e1, e2, e3, e4⟩ := h6 q _ (Array.getElem?_eq_getElem hq)
  have hs : c9.slots = (s.heap[q]).slots := Array.ext_getElem? fun i => e4 i fun hm => hz _ hm rfl
  have h9 : c9 = s.heap[q] := by
    rw [hs] at e2
    exact e2
  have e5 : U.heap[q]? = some c9 := e1
  rw [e5, h9, Array.getElem?_eq_getElem hq]
/-- the words of a throw but the four that speak of the heap -/
def vx_no (w : Cond) : Bool := decide (w ≠ .isRef (.static Bundle.tN "UNASSIGNED_STACK" Bundle.steD)) && decide (w ≠ .isRef (.static Bundle.tN "SUPPRESSED_SENTINEL" Bundle.listD)) && decide (w ≠ .laysStatic Bundle.tN "UNASSIGNED_STACK" Bundle.steD) && decide (w ≠ .laysStatic Bundle.tN "SUPPRESSED_SENTINEL" Bundle.listD)
def vx_at0 (own : String) (ic : Nat) (X : String) (names : List String) : List Cond := (Bundle.ownAtoms0 own ic X names).filter vx_no
def vx_atS (own : String) (ic : Nat) (X : String) (names : List String) : List Cond := (Bundle.ownAtoms own ic X names).filter vx_no
/-- a word that the tables alone decide, or a good one -/
def vx_ot (w : Cond) : Bool := w.onTables || goodWord w
theorem vx_ot_at {args a' : Array Value} {s U : State} {w : Cond} (hW : s.WarmedH U.vm) (hvm : s.vm = U.vm) (hg : vx_ot w = true) (h : w.before args s = true) : w.before a' U = true := by
  simp only [vx_ot, Bool.or_eq_true] at hg
  rcases hg with hg | hg
  · exact va_tabs hg hvm h
  · exact word_at hW (good_of_word hg) h
/-- a list's words: the good ones out of the method's own list, the others by premises of their own -/
theorem vx_hat {args : Array Value} {s : State} {L B : List Cond} (h1 : ∀ w ∈ L.filter goodWord, w.before args s = true) (h2 : ∀ w ∈ L.filter (fun w => !goodWord w), w ∈ B) (h3 : ∀ w ∈ B, w.before args s = true) : ∀ w ∈ L, w.before args s = true := by
  intro w hw
  by_cases g : goodWord w = true
  · exact h1 w (List.mem_filter.mpr ⟨hw, g⟩)
  · refine h3 w (h2 w (List.mem_filter.mpr ⟨hw, ?_⟩))
    show (!goodWord w) = true
    cases hgw : goodWord w
    · rfl
    · exact absurd hgw g
theorem vx_c {args : Array Value} {s : State} {w : Cond} {B : List Cond} (h : w.before args s = true) (t : ∀ w ∈ B, w.before args s = true) : ∀ w' ∈ w :: B, w'.before args s = true := fun w' h' => (List.mem_cons.mp h').elim (fun e => by rw [e]; exact h) (t w')
theorem vx_n {args : Array Value} {s : State} : ∀ w ∈ ([] : List Cond), w.before args s = true := fun _ h => nomatch h
theorem vx_own {args : Array Value} {s : State} {L : List Cond} (h1 : ∀ w ∈ L.filter vx_no, w.before args s = true)
    (hU : (Cond.isRef (.static Bundle.tN "UNASSIGNED_STACK" Bundle.steD)).before args s = true) (hN : (Cond.isRef (.static Bundle.tN "SUPPRESSED_SENTINEL" Bundle.listD)).before args s = true)
    (lU : (Cond.laysStatic Bundle.tN "UNASSIGNED_STACK" Bundle.steD).before args s = true) (lN : (Cond.laysStatic Bundle.tN "SUPPRESSED_SENTINEL" Bundle.listD).before args s = true) : ∀ w ∈ L, w.before args s = true := by
  intro w hw
  by_cases e1 : w = .isRef (.static Bundle.tN "UNASSIGNED_STACK" Bundle.steD)
  · rw [e1]; exact hU
  · by_cases e2 : w = .isRef (.static Bundle.tN "SUPPRESSED_SENTINEL" Bundle.listD)
    · rw [e2]; exact hN
    · by_cases e3 : w = .laysStatic Bundle.tN "UNASSIGNED_STACK" Bundle.steD
      · rw [e3]; exact lU
      · by_cases e4 : w = .laysStatic Bundle.tN "SUPPRESSED_SENTINEL" Bundle.listD
        · rw [e4]; exact lN
        · exact h1 w (List.mem_filter.mpr ⟨hw, by unfold vx_no; rw [decide_eq_true e1, decide_eq_true e2, decide_eq_true e3, decide_eq_true e4]; rfl⟩)
/-- where a static field lies, its class's statics cell in H -/
def vx_L (C n d : String) (A : Nat → Prop) (U : State) (H : Heap) : Prop := ∃ (c : ClassId) (k : Class) (i : Nat) (f : Field) (a : Nat) (cell : Cell), U.vm.findClass C = some c ∧ U.fieldFound? C n d = some (c, k, i, f) ∧ f.isStatic = true ∧ k.statics = some a ∧ H[a]? = some cell ∧ cell.vm.isStatics = true ∧ cell.cls = c ∧ f.slot < cell.slots.size ∧ k.staticTypes[f.slot]? = some f.type ∧ ¬ A a
theorem vx_L.moved {C n d : String} {A : Nat → Prop} {u U : State} {H : Heap} (hvm : u.vm.Alike U.vm) (h : vx_L C n d A u H) : vx_L C n d A U H := by
  obtain ⟨c, k, i, f, a, cell, h1, h2, h3, h4, h5, h6, h7, h8, h9, h10⟩ := h
  obtain ⟨k', hi', he⟩ := State.fieldFound?_setVm hvm h2
  exact ⟨c, k', i, f, a, cell, by rw [hvm.findClass]; exact h1, hi', h3, by rw [he]; exact h4, h5, h6, h7, h8, by rw [he]; exact h9, h10⟩
theorem vx_L.kept {C n d : String} {A : Nat → Prop} {U : State} {H H1 : Heap} (h : vx_L C n d A U H) (hq : ∀ a : Nat, a < H.size → ¬ A a → H1[a]? = H[a]?) : vx_L C n d A U H1 := by
  obtain ⟨c, k, i, f, a, cell, h1, h2, h3, h4, h5, h6, h7, h8, h9, h10⟩ := h
  exact ⟨c, k, i, f, a, cell, h1, h2, h3, h4, by rw [hq a (Array.getElem?_eq_some_iff.mp h5).1 h10]; exact h5, h6, h7, h8, h9, h10⟩
theorem vx_L.narrow {C n d : String} {A B : Nat → Prop} {U : State} {H : Heap} (h : vx_L C n d A U H) (hAB : ∀ q, B q → A q) : vx_L C n d B U H := by
  obtain ⟨c, k, i, f, a, cell, h1, h2, h3, h4, h5, h6, h7, h8, h9, h10⟩ := h
  exact ⟨c, k, i, f, a, cell, h1, h2, h3, h4, h5, h6, h7, h8, h9, fun z => h10 (hAB _ z)⟩
theorem vx_L.word {C n d : String} {A : Nat → Prop} {s : State} {args : Array Value} (h : vx_L C n d A s s.heap) : (Cond.laysStatic C n d).before args s = true := by
  obtain ⟨c, k, i, f, a, cell, h1, h2, h3, h4, h5, h6, h7, h8, h9, -⟩ := h
  show (Cond.laysStatic C n d).holds args s none s [] = true
  exact Cond.laysStatic_of h1 h2 h3 h4 h5 h6 h7 h8 h9
/-- .. and what it holds: null or some reference -/
def vx_Zq (C n d : String) (A : Nat → Prop) (U : State) (H : Heap) : Prop := va_Zq C n d A U H ∧ vx_L C n d A U H
theorem vx_Zq.moved {C n d : String} {A : Nat → Prop} {u U : State} {H : Heap} (hvm : u.vm.Alike U.vm) (h : vx_Zq C n d A u H) : vx_Zq C n d A U H := ⟨va_Zq.moved hvm h.1, vx_L.moved hvm h.2⟩
theorem vx_Zq.kept {C n d : String} {A : Nat → Prop} {U : State} {H H1 : Heap} (h : vx_Zq C n d A U H) (hq : ∀ a : Nat, a < H.size → ¬ A a → H1[a]? = H[a]?) : vx_Zq C n d A U H1 := ⟨va_Zq.kept h.1 hq, vx_L.kept h.2 hq⟩
theorem vx_Zq.narrow {C n d : String} {A B : Nat → Prop} {U : State} {H : Heap} (h : vx_Zq C n d A U H) (hAB : ∀ q, B q → A q) : vx_Zq C n d B U H := ⟨va_Zq.narrow h.1 hAB, vx_L.narrow h.2 hAB⟩
theorem vx_Zqof {args : Array Value} {s : State} {C n d : String} {A : Nat → Prop} (hl : (Cond.laysStatic C n d).before args s = true) (hini : (Cond.initialized C).before args s = true) (h : (Cond.isRef (.static C n d)).before args s = true) (hA : ∀ a : Nat, a < s.heap.size → ¬ A a) : vx_Zq C n d A s s.heap := by
  refine ⟨va_Zqof hl hini h hA, ?_⟩
  obtain ⟨c, k, i, f, a, cell, h1, h2, h3, h4, h5, h6, h7, h8, h9⟩ := Cond.laysStatic_spec hl
  exact ⟨c, k, i, f, a, cell, h1, h2, h3, h4, h5, h6, h7, h8, h9, hA a (Array.getElem?_eq_some_iff.mp h5).1⟩
theorem vx_isRef {C n d : String} {v : Value} {A : Nat → Prop} {s : State} {args : Array Value} (h : va_Z C n d v A s s.heap) (hv : v.isRef = true) : (Cond.isRef (.static C n d)).before args s = true := by
  obtain ⟨cf, kf, fi, f, a, cell, h1, h2, h3, h4, h5, h6, h7, -⟩ := h
  have he : (Term.static C n d).eval args s none [] s = some v := by
    simp [Term.eval, State.fieldNamed?, h1, h2, h4, h5, h6, h7]
  simp only [Cond.before, Cond.holds, Cond.value, he]
  cases v <;> simp_all [Value.isRef]
theorem vx_isRefq {C n d : String} {A : Nat → Prop} {s : State} {args : Array Value} (h : va_Zq C n d A s s.heap) : (Cond.isRef (.static C n d)).before args s = true := by
  rcases h with h | ⟨t, h⟩
  · exact vx_isRef h rfl
  · exact vx_isRef h rfl
/-- the same frame, seen from here: as if the method were called anew in this heap -/
theorem vx_rebase {T : State} (X : Stand p l e R s m args below meth c T locs cells slots) {R' : Room} (hf : R'.frames ≤ R.frames) (hl : R'.locals ≤ R.locals) (hc : cells + R'.cells ≤ R.cells) (hs : slots + R'.slots ≤ R.slots) :
    Stand p l e R' ((T.setVm s.vm).setFrames (.invoking m args :: below)) m args below meth c T [] 0 0 := by
  have htop : (T.setVm s.vm).topJava?.isSome := X.here.top
  have hF : ((T.setVm s.vm).setFrames (.invoking m args :: below)).frames = .invoking m args :: below := State.frames_setFrames _ (State.cur_lt_of_top htop)
  obtain ⟨g₀, hg0⟩ := Option.isSome_iff_exists.mp htop
  obtain ⟨r, hr⟩ := State.topJava?_eq_some.mp hg0
  have hl9 : e.platform.stackLimits (T.setVm s.vm).me = e.platform.stackLimits s.me := X.limits
  have hb9 : (T.setVm s.vm).me.stackBytes = s.me.stackBytes := X.bytes
  refine ⟨X.admits, X.cas, X.clock, hF, ?_, X.hears, X.method, X.code, X.here, X.tail, X.warmed, ?_, ?_, ?_⟩
  · have h := X.room
    have hU : ((T.setVm s.vm).setFrames (.invoking m args :: below)).localsInUse = s.localsInUse := by
      rw [State.localsInUse_invoking hF (meth := meth) (c := c) X.method X.code, State.localsInUse_invoking X.frames X.method X.code]
    simp only [State.hasRoom, Bool.and_eq_true, decide_eq_true_eq] at h ⊢
    obtain ⟨⟨⟨⟨h1, h2, h3, h4, h5, h6⟩, h7⟩, h8⟩, h9⟩ := h
    rw [X.frames, List.length_cons] at h2 h3
    have q1 := X.heapSize
    have q2 := X.used
    simp only [hF, hU, List.length_cons, State.stackLimits_setFrames, State.stackBytes_setFrames, hl9, hb9]
    refine ⟨⟨⟨⟨by omega, by omega, by omega, by omega, by omega, h6⟩, ?_⟩, ?_⟩, X.book⟩
    · show T.heap.size + R'.cells ≤ e.platform.maxCells
      omega
    · show T.slotsUsed + R'.slots ≤ e.platform.maxSlots
      omega
  · rw [State.stackLimits_setFrames]; rfl
  · rw [State.stackBytes_setFrames]; rfl
  · refine ⟨?_, Nat.le_refl _, Nat.le_refl _, ?_, ?_, fun a c9 h9 => ⟨c9, h9, rfl, rfl, fun _ _ => rfl⟩⟩
    · obtain ⟨t, ht, -⟩ := State.frames_cons hr
      show T.setVm s.vm = { ((T.setVm s.vm).setFrames (.invoking m args :: below)).setFrames (T.setVm s.vm).frames with heap := T.heap, slotsUsed := T.slotsUsed }
      rw [State.setFrames_setFrames, State.setFrames_self ht]
      rfl
    · show T.slotsUsed = T.slotsUsed + ((T.heap.toList.drop T.heap.size).map (·.slots.size)).sum
      rw [List.drop_eq_nil_of_le (Nat.le_of_eq Array.length_toList)]
      rfl
    · show ((T.heap.toList.drop T.heap.size).map (·.slots.size)).sum ≤ 0
      rw [List.drop_eq_nil_of_le (Nat.le_of_eq Array.length_toList)]
      exact Nat.le_refl _
/-- 'throw new E()': new; dup; invokespecial; athrow -/
theorem vx_throw0 {cc : ByteArray} {pc : Nat} (hexec : p.tables.exec = Jvm.exec) (hb : c.code = cc) (hl : l.stackTraces = false) {own cls : String} {names : List String} {ik ic mc ms : Nat} {A : Nat → Prop}
    (hown : s.vm.findClass own = some m.cls) (hcls : Bundle.fit cls = true) (hnames : ∀ n ∈ names, Bundle.fit n = true)
    (hk : (Cond.classLink own ik cls).before args s = true) (hini : (Cond.initialized cls).before args s = true) (hat : ∀ w ∈ vx_at0 own ic cls names, w.before args s = true)
    (hgood : ∀ w ∈ Cond.classLink own ik cls :: Cond.initialized cls :: vx_at0 own ic cls names, vx_ot w = true)
    (hU : vx_Zq Bundle.tN "UNASSIGNED_STACK" Bundle.steD A s s.heap) (hN : vx_Zq Bundle.tN "SUPPRESSED_SENTINEL" Bundle.listD A s s.heap) (hS : va_S A s.heap H locs) (hsize : ls.size = c.maxLocals)
    (d0 : decode cc pc = .ok (.new ik, 3)) (d3 : decode cc (pc + 3) = .ok (.dup, 1)) (d4 : decode cc (pc + 4) = .ok (.invokespecial ic, 3)) (d7 : decode cc (pc + 7) = .ok (.athrow, 1))
    (hout : ∀ x ∈ c.exceptionTable.toList, covers x (pc + 7) = false)
    (hRframes : names.length + 3 < R.frames) (hRlocals : (rest.map fun v => v.category).sum + (13 * (names.length + 1) + 42) ≤ R.locals) (hRcells : cells + 1 ≤ R.cells) (hRslots : slots + 6 ≤ R.slots) (hlocks : meth.locks = false)
    (hx : ∀ t : State, s.vm.Alike t.vm → H.size ≤ t.heap.size → (∀ q : Nat, q < H.size → t.heap[q]? = H[q]?) → XC cls s t)
    (hf : ∀ z ∈ locs, free z.base) (hc : cells + 1 ≤ mc) (hs : slots + 6 ≤ ms) :
    W p l e R s m args below meth c H locs cells slots (vx_MQ below Qc XC args s mc ms free) (F0 m pc ls rest) := by
  intro T hT X
  have htr : e.platform.stackTraces = false := (show e.platform.stackTraces = l.stackTraces by rw [X.admits.platform]).trans hl
  have Y := vx_rebase X (R' := { frames := R.frames, locals := R.locals, cells := 1, slots := 6 }) (Nat.le_refl _) (Nat.le_refl _) hRcells hRslots
  obtain ⟨s', hA⟩ : ∃ z, z = (T.setVm s.vm).setFrames (.invoking m args :: below) := ⟨_, rfl⟩
  rw [← hA] at Y
  have hvm : s'.vm = s.vm := by rw [hA]; rfl
  have hhp : s'.heap = H := by rw [hA]; exact hT
  have hW0 : s.WarmedH s'.vm := by rw [hvm]; exact State.WarmedH.refl s
  have hat' : ∀ w ∈ vx_at0 own ic cls names, w.before args s' = true := fun w hw => vx_ot_at hW0 hvm.symm (hgood w (List.mem_cons_of_mem _ (List.mem_cons_of_mem _ hw))) (hat w hw)
  have hk' : (Cond.classLink own ik cls).before args s' = true := vx_ot_at hW0 hvm.symm (hgood _ List.mem_cons_self) hk
  have hini' : (Cond.initialized cls).before args s' = true := vx_ot_at hW0 hvm.symm (hgood _ (List.mem_cons_of_mem _ List.mem_cons_self)) hini
  have hU' : vx_Zq Bundle.tN "UNASSIGNED_STACK" Bundle.steD A s' s'.heap := by rw [hhp]; exact vx_Zq.moved hW0.alike (hU.kept hS.2.1)
  have hN' : vx_Zq Bundle.tN "SUPPRESSED_SENTINEL" Bundle.listD A s' s'.heap := by rw [hhp]; exact vx_Zq.moved hW0.alike (hN.kept hS.2.1)
  have h : ∀ w ∈ Bundle.ownAtoms0 own ic cls names, w.before args s' = true := vx_own hat' (vx_isRefq hU'.1) (vx_isRefq hN'.1) hU'.2.word hN'.2.word
  have hown' : s'.vm.findClass own = some m.cls := by rw [hvm]; exact hown
  have hins : (Cond.instantiable cls 6).before args s' = true := h _ (by simp [Bundle.ownAtoms0])
  obtain ⟨vm₁, cX, kX, hfX, hkX, -, -, X₁, st1⟩ := Y.newCold hexec (own := own) (C := cls) (index := ik) (n := 6) hown' hk' hins hini'
    (g := F0 m pc ls rest) rfl (by rw [hb]; exact d0) (Nat.le_refl _) (Nat.le_refl _)
  generalize hT1 : (T.setVm vm₁).pushCell { cls := cX, slots := kX.instanceTypes.map defaultValue, vm := .none } = T1 at X₁ st1
  have hcat : (Value.ref T.heap.size).category = 1 := rfl
  have hcellA : T1.heap[T.heap.size]? = some (freshCell cX kX) := by rw [← hT1]; exact State.heap_pushCell_size _ _
  have d3' : decode c.code (pc + 3) = .ok (.dup, 1) := by rw [hb]; exact d3
  obtain ⟨U, hsteps, hrun, hend, hW, hsame, ce, hce, hO⟩ := X₁.ctorThrow0 hexec htr (own := own) (cls := cls) (names := names) (ic := ic) hown' hcls hnames h (fun x hx => nomatch hx) hfX hkX hcellA (by rw [hhp, hT]; exact Nat.le_refl _)
    (g := { method := m, pc := pc + 4, locals := ls, stack := .ref T.heap.size :: .ref T.heap.size :: rest, locked := none }) rfl hsize rfl rfl (rest := rest) rfl
    (by rw [hb]; exact d4) (by rw [hb]; exact d7) hout hRframes (by simp only [List.map_cons, List.sum_cons, hcat]; omega) hlocks
  obtain ⟨f1, f2⟩ := vx_frame hsame
  rw [hhp] at f1 f2
  have hWs : s.WarmedH U.vm := State.WarmedH.trans hW0 hW
  have hcl : s.vm.findClass cls = some ce.cls := by
    have h9 := hO.cls
    rw [hvm] at h9
    exact h9
  have hall : s.sameButNew ({ U with vm := s.vm } : State) locs mc ms := by
    subst hA
    obtain ⟨e1, e2⟩ := hsame
    rw [State.setFrames_setFrames] at e1
    have h2 : (T.setVm s.vm).sameButNew ({ U with vm := s.vm } : State) [] (0 + 1) (0 + 6) := ⟨e1, e2⟩
    have h3 := X.same.trans h2
    rw [List.append_nil] at h3
    exact h3.mono hc hs
  refine ⟨U, ?_, .threw T.heap.size, hrun, hend, Or.inr ⟨T.heap.size, rfl, cls, ce, locs, hx U hWs.alike f1 (fun q hq => f2 q hq (fun z hz => nomatch hz)), hce, hO.vm, hcl, hWs, hall, hf⟩⟩
  refine st1 _ ?_
  show Steps p.tables e below (T1.setTop { method := m, pc := pc + 3, locals := ls, stack := .ref T.heap.size :: rest, locked := none }) _
  jvm_step X₁.here [X₁.here.top, hexec, d3', Value.category]
  exact hsteps
/-- 'throw new E("text")': new; dup; ldc; invokespecial; athrow -/
theorem vx_throwS {cc : ByteArray} {pc : Nat} (hexec : p.tables.exec = Jvm.exec) (hb : c.code = cc) (hl : l.stackTraces = false) {own cls text : String} {names : List String} {ik is ic mc ms sa : Nat} {A : Nat → Prop}
    (hown : s.vm.findClass own = some m.cls) (hcls : Bundle.fit cls = true) (hnames : ∀ n ∈ names, Bundle.fit n = true)
    (hk : (Cond.classLink own ik cls).before args s = true) (hini : (Cond.initialized cls).before args s = true) (hstr : vk_R own is text sa s) (hat : ∀ w ∈ vx_atS own ic cls names, w.before args s = true)
    (hgood : ∀ w ∈ Cond.classLink own ik cls :: Cond.initialized cls :: vx_atS own ic cls names, vx_ot w = true)
    (hU : vx_Zq Bundle.tN "UNASSIGNED_STACK" Bundle.steD A s s.heap) (hN : vx_Zq Bundle.tN "SUPPRESSED_SENTINEL" Bundle.listD A s s.heap) (hS : va_S A s.heap H locs) (hsize : ls.size = c.maxLocals)
    (d0 : decode cc pc = .ok (.new ik, 3)) (d3 : decode cc (pc + 3) = .ok (.dup, 1)) (d4 : decode cc (pc + 4) = .ok (.ldc is, 2)) (d6 : decode cc (pc + 6) = .ok (.invokespecial ic, 3)) (d9 : decode cc (pc + 9) = .ok (.athrow, 1))
    (hout : ∀ x ∈ c.exceptionTable.toList, covers x (pc + 9) = false)
    (hRframes : names.length + 3 < R.frames) (hRlocals : (rest.map fun v => v.category).sum + (13 * (names.length + 1) + 43) ≤ R.locals) (hRcells : cells + 1 ≤ R.cells) (hRslots : slots + 6 ≤ R.slots) (hlocks : meth.locks = false)
    (hx : ∀ t : State, s.vm.Alike t.vm → H.size ≤ t.heap.size → (∀ q : Nat, q < H.size → t.heap[q]? = H[q]?) → XC cls s t)
    (hf : ∀ z ∈ locs, free z.base) (hc : cells + 1 ≤ mc) (hs : slots + 6 ≤ ms) :
    W p l e R s m args below meth c H locs cells slots (vx_MQ below Qc XC args s mc ms free) (F0 m pc ls rest) := by
  intro T hT X
  have htr : e.platform.stackTraces = false := (show e.platform.stackTraces = l.stackTraces by rw [X.admits.platform]).trans hl
  have Y := vx_rebase X (R' := { frames := R.frames, locals := R.locals, cells := 1, slots := 6 }) (Nat.le_refl _) (Nat.le_refl _) hRcells hRslots
  obtain ⟨s', hA⟩ : ∃ z, z = (T.setVm s.vm).setFrames (.invoking m args :: below) := ⟨_, rfl⟩
  rw [← hA] at Y
  have hvm : s'.vm = s.vm := by rw [hA]; rfl
  have hhp : s'.heap = H := by rw [hA]; exact hT
  have hW0 : s.WarmedH s'.vm := by rw [hvm]; exact State.WarmedH.refl s
  have hat' : ∀ w ∈ vx_atS own ic cls names, w.before args s' = true := fun w hw => vx_ot_at hW0 hvm.symm (hgood w (List.mem_cons_of_mem _ (List.mem_cons_of_mem _ hw))) (hat w hw)
  have hk' : (Cond.classLink own ik cls).before args s' = true := vx_ot_at hW0 hvm.symm (hgood _ List.mem_cons_self) hk
  have hini' : (Cond.initialized cls).before args s' = true := vx_ot_at hW0 hvm.symm (hgood _ (List.mem_cons_of_mem _ List.mem_cons_self)) hini
  have hU' : vx_Zq Bundle.tN "UNASSIGNED_STACK" Bundle.steD A s' s'.heap := by rw [hhp]; exact vx_Zq.moved hW0.alike (hU.kept hS.2.1)
  have hN' : vx_Zq Bundle.tN "SUPPRESSED_SENTINEL" Bundle.listD A s' s'.heap := by rw [hhp]; exact vx_Zq.moved hW0.alike (hN.kept hS.2.1)
  have h : ∀ w ∈ Bundle.ownAtoms own ic cls names, w.before args s' = true := vx_own hat' (vx_isRefq hU'.1) (vx_isRefq hN'.1) hU'.2.word hN'.2.word
  have hown' : s'.vm.findClass own = some m.cls := by rw [hvm]; exact hown
  have hins : (Cond.instantiable cls 6).before args s' = true := h _ (by simp [Bundle.ownAtoms])
  obtain ⟨vm₁, cX, kX, hfX, hkX, -, -, X₁, st1⟩ := Y.newCold hexec (own := own) (C := cls) (index := ik) (n := 6) hown' hk' hins hini'
    (g := F0 m pc ls rest) rfl (by rw [hb]; exact d0) (Nat.le_refl _) (Nat.le_refl _)
  generalize hT1 : (T.setVm vm₁).pushCell { cls := cX, slots := kX.instanceTypes.map defaultValue, vm := .none } = T1 at X₁ st1
  have hcat : (Value.ref T.heap.size).category = 1 := rfl
  have hcellA : T1.heap[T.heap.size]? = some (freshCell cX kX) := by rw [← hT1]; exact State.heap_pushCell_size _ _
  have d3' : decode c.code (pc + 3) = .ok (.dup, 1) := by rw [hb]; exact d3
  have d4' : decode c.code (pc + 4) = .ok (.ldc is, 2) := by rw [hb]; exact d4
  have hstr' : vk_R own is text sa s' := vk_R.warm hW0 hstr
  obtain ⟨U, hsteps, hrun, hend, hW, hsame, ce, hce, hO⟩ := X₁.ctorThrowS hexec htr (own := own) (cls := cls) (names := names) (ic := ic) hown' hcls hnames h (fun x hx => nomatch hx) hfX hkX hcellA (by rw [hhp, hT]; exact Nat.le_refl _) (msg := .ref sa) rfl
    (g := { method := m, pc := pc + 6, locals := ls, stack := .ref sa :: .ref T.heap.size :: .ref T.heap.size :: rest, locked := none }) rfl hsize rfl rfl (rest := rest) rfl
    (by rw [hb]; exact d6) (by rw [hb]; exact d9) hout hRframes (by simp only [List.map_cons, List.sum_cons, hcat]; omega) hlocks
  obtain ⟨f1, f2⟩ := vx_frame hsame
  rw [hhp] at f1 f2
  have hWs : s.WarmedH U.vm := State.WarmedH.trans hW0 hW
  have hcl : s.vm.findClass cls = some ce.cls := by
    have h9 := hO.cls
    rw [hvm] at h9
    exact h9
  have hall : s.sameButNew ({ U with vm := s.vm } : State) locs mc ms := by
    subst hA
    obtain ⟨e1, e2⟩ := hsame
    rw [State.setFrames_setFrames] at e1
    have h2 : (T.setVm s.vm).sameButNew ({ U with vm := s.vm } : State) [] (0 + 1) (0 + 6) := ⟨e1, e2⟩
    have h3 := X.same.trans h2
    rw [List.append_nil] at h3
    exact h3.mono hc hs
  refine ⟨U, ?_, .threw T.heap.size, hrun, hend, Or.inr ⟨T.heap.size, rfl, cls, ce, locs, hx U hWs.alike f1 (fun q hq => f2 q hq (fun z hz => nomatch hz)), hce, hO.vm, hcl, hWs, hall, hf⟩⟩
  refine st1 _ ?_
  show Steps p.tables e below (T1.setTop { method := m, pc := pc + 3, locals := ls, stack := .ref T.heap.size :: rest, locked := none }) _
  jvm_step X₁.here [X₁.here.top, hexec, d3', Value.category]
  exact X₁.ldcString hexec (own := own) (text := text) (index := is) (a := sa) hown' hstr'.1 hstr'.2
    (g := { method := m, pc := pc + 4, locals := ls, stack := .ref T.heap.size :: .ref T.heap.size :: rest, locked := none }) rfl d4' _ hsteps
/-- 'throw new E("text")', the text by a wide index -/
theorem vx_throwSW {cc : ByteArray} {pc : Nat} (hexec : p.tables.exec = Jvm.exec) (hb : c.code = cc) (hl : l.stackTraces = false) {own cls text : String} {names : List String} {ik is ic mc ms sa : Nat} {A : Nat → Prop}
    (hown : s.vm.findClass own = some m.cls) (hcls : Bundle.fit cls = true) (hnames : ∀ n ∈ names, Bundle.fit n = true)
    (hk : (Cond.classLink own ik cls).before args s = true) (hini : (Cond.initialized cls).before args s = true) (hstr : vk_R own is text sa s) (hat : ∀ w ∈ vx_atS own ic cls names, w.before args s = true)
    (hgood : ∀ w ∈ Cond.classLink own ik cls :: Cond.initialized cls :: vx_atS own ic cls names, vx_ot w = true)
    (hU : vx_Zq Bundle.tN "UNASSIGNED_STACK" Bundle.steD A s s.heap) (hN : vx_Zq Bundle.tN "SUPPRESSED_SENTINEL" Bundle.listD A s s.heap) (hS : va_S A s.heap H locs) (hsize : ls.size = c.maxLocals)
    (d0 : decode cc pc = .ok (.new ik, 3)) (d3 : decode cc (pc + 3) = .ok (.dup, 1)) (d4 : decode cc (pc + 4) = .ok (.ldc_w is, 3)) (d7 : decode cc (pc + 7) = .ok (.invokespecial ic, 3)) (d10 : decode cc (pc + 10) = .ok (.athrow, 1))
    (hout : ∀ x ∈ c.exceptionTable.toList, covers x (pc + 10) = false)
    (hRframes : names.length + 3 < R.frames) (hRlocals : (rest.map fun v => v.category).sum + (13 * (names.length + 1) + 43) ≤ R.locals) (hRcells : cells + 1 ≤ R.cells) (hRslots : slots + 6 ≤ R.slots) (hlocks : meth.locks = false)
    (hx : ∀ t : State, s.vm.Alike t.vm → H.size ≤ t.heap.size → (∀ q : Nat, q < H.size → t.heap[q]? = H[q]?) → XC cls s t)
    (hf : ∀ z ∈ locs, free z.base) (hc : cells + 1 ≤ mc) (hs : slots + 6 ≤ ms) :
    W p l e R s m args below meth c H locs cells slots (vx_MQ below Qc XC args s mc ms free) (F0 m pc ls rest) := by
  intro T hT X
  have htr : e.platform.stackTraces = false := (show e.platform.stackTraces = l.stackTraces by rw [X.admits.platform]).trans hl
  have Y := vx_rebase X (R' := { frames := R.frames, locals := R.locals, cells := 1, slots := 6 }) (Nat.le_refl _) (Nat.le_refl _) hRcells hRslots
  obtain ⟨s', hA⟩ : ∃ z, z = (T.setVm s.vm).setFrames (.invoking m args :: below) := ⟨_, rfl⟩
  rw [← hA] at Y
  have hvm : s'.vm = s.vm := by rw [hA]; rfl
  have hhp : s'.heap = H := by rw [hA]; exact hT
  have hW0 : s.WarmedH s'.vm := by rw [hvm]; exact State.WarmedH.refl s
  have hat' : ∀ w ∈ vx_atS own ic cls names, w.before args s' = true := fun w hw => vx_ot_at hW0 hvm.symm (hgood w (List.mem_cons_of_mem _ (List.mem_cons_of_mem _ hw))) (hat w hw)
  have hk' : (Cond.classLink own ik cls).before args s' = true := vx_ot_at hW0 hvm.symm (hgood _ List.mem_cons_self) hk
  have hini' : (Cond.initialized cls).before args s' = true := vx_ot_at hW0 hvm.symm (hgood _ (List.mem_cons_of_mem _ List.mem_cons_self)) hini
  have hU' : vx_Zq Bundle.tN "UNASSIGNED_STACK" Bundle.steD A s' s'.heap := by rw [hhp]; exact vx_Zq.moved hW0.alike (hU.kept hS.2.1)
  have hN' : vx_Zq Bundle.tN "SUPPRESSED_SENTINEL" Bundle.listD A s' s'.heap := by rw [hhp]; exact vx_Zq.moved hW0.alike (hN.kept hS.2.1)
  have h : ∀ w ∈ Bundle.ownAtoms own ic cls names, w.before args s' = true := vx_own hat' (vx_isRefq hU'.1) (vx_isRefq hN'.1) hU'.2.word hN'.2.word
  have hown' : s'.vm.findClass own = some m.cls := by rw [hvm]; exact hown
  have hins : (Cond.instantiable cls 6).before args s' = true := h _ (by simp [Bundle.ownAtoms])
  obtain ⟨vm₁, cX, kX, hfX, hkX, -, -, X₁, st1⟩ := Y.newCold hexec (own := own) (C := cls) (index := ik) (n := 6) hown' hk' hins hini'
    (g := F0 m pc ls rest) rfl (by rw [hb]; exact d0) (Nat.le_refl _) (Nat.le_refl _)
  generalize hT1 : (T.setVm vm₁).pushCell { cls := cX, slots := kX.instanceTypes.map defaultValue, vm := .none } = T1 at X₁ st1
  have hcat : (Value.ref T.heap.size).category = 1 := rfl
  have hcellA : T1.heap[T.heap.size]? = some (freshCell cX kX) := by rw [← hT1]; exact State.heap_pushCell_size _ _
  have d3' : decode c.code (pc + 3) = .ok (.dup, 1) := by rw [hb]; exact d3
  have d4' : decode c.code (pc + 4) = .ok (.ldc_w is, 3) := by rw [hb]; exact d4
  have hstr' : vk_R own is text sa s' := vk_R.warm hW0 hstr
  obtain ⟨U, hsteps, hrun, hend, hW, hsame, ce, hce, hO⟩ := X₁.ctorThrowS hexec htr (own := own) (cls := cls) (names := names) (ic := ic) hown' hcls hnames h (fun x hx => nomatch hx) hfX hkX hcellA (by rw [hhp, hT]; exact Nat.le_refl _) (msg := .ref sa) rfl
    (g := { method := m, pc := pc + 7, locals := ls, stack := .ref sa :: .ref T.heap.size :: .ref T.heap.size :: rest, locked := none }) rfl hsize rfl rfl (rest := rest) rfl
    (by rw [hb]; exact d7) (by rw [hb]; exact d10) hout hRframes (by simp only [List.map_cons, List.sum_cons, hcat]; omega) hlocks
  obtain ⟨f1, f2⟩ := vx_frame hsame
  rw [hhp] at f1 f2
  have hWs : s.WarmedH U.vm := State.WarmedH.trans hW0 hW
  have hcl : s.vm.findClass cls = some ce.cls := by
    have h9 := hO.cls
    rw [hvm] at h9
    exact h9
  have hall : s.sameButNew ({ U with vm := s.vm } : State) locs mc ms := by
    subst hA
    obtain ⟨e1, e2⟩ := hsame
    rw [State.setFrames_setFrames] at e1
    have h2 : (T.setVm s.vm).sameButNew ({ U with vm := s.vm } : State) [] (0 + 1) (0 + 6) := ⟨e1, e2⟩
    have h3 := X.same.trans h2
    rw [List.append_nil] at h3
    exact h3.mono hc hs
  refine ⟨U, ?_, .threw T.heap.size, hrun, hend, Or.inr ⟨T.heap.size, rfl, cls, ce, locs, hx U hWs.alike f1 (fun q hq => f2 q hq (fun z hz => nomatch hz)), hce, hO.vm, hcl, hWs, hall, hf⟩⟩
  refine st1 _ ?_
  show Steps p.tables e below (T1.setTop { method := m, pc := pc + 3, locals := ls, stack := .ref T.heap.size :: rest, locked := none }) _
  jvm_step X₁.here [X₁.here.top, hexec, d3', Value.category]
  exact X₁.ldcStringW hexec (own := own) (text := text) (index := is) (a := sa) hown' hstr'.1 hstr'.2
    (g := { method := m, pc := pc + 4, locals := ls, stack := .ref T.heap.size :: .ref T.heap.size :: rest, locked := none }) rfl d4' _ hsteps
end Ends
section Bodies
variable {l : Launch}
theorem vx_ofW {y : MethodName} {ws ws' : List Cond} {rm : Room} {Pc : Array Value → State → Prop} {Qc : Array Value → State → Outcome → State → Prop} {XC : String → State → State → Prop} {mc ms : Nat} {free : Addr → Prop} {cc : ByteArray} {maxL : Nat} {ret : Option FieldType}
    (hy : plainName y.cls = true) (hw : ws = Cond.code y cc maxL ret :: ws')
    (body : ∀ p e s m args below meth c s₁, BodyLoose p l y (headSpec ws rm) cc maxL ret e s m args below meth c s₁ → c.maxLocals = maxL → (∀ x ∈ c.exceptionTable.toList, False) → Pc args s →
      W p l e (headSpec ws rm).room s m args below meth c s.heap [] 0 0 (vx_MQ below Qc XC args s mc ms free) (entryFrame m args maxL)) : vx_Met l y ws rm Pc Qc XC mc ms free := by
  refine MetFree.of_bodyS (code := cc) (maxLocals := maxL) (ret := ret) hy ?_ ?_
  · intro args s m h hn
    obtain ⟨meth, c, h1, h2, h3, h4, h5, h6, -, -⟩ := Cond.code_spec hn (atoms_spec (ws := ws) h _ (by rw [hw]; exact List.mem_cons_self))
    exact ⟨meth, c, h1, h2, h3, h4, h5, h6⟩
  · intro p e s m args below meth c s₁ B hml hP _
    have hh0 : s₁.heap = s.heap := by rw [B.state]; rfl
    have ht : ∀ x ∈ c.exceptionTable.toList, False := by
      obtain ⟨meth9, c9, h1, h2, -, -, -, -, h7, -⟩ := Cond.code_spec B.named (atoms_spec (ws := ws) B.pre _ (by rw [hw]; exact List.mem_cons_self))
      cases Option.some.inj (h1.symm.trans B.method)
      cases Option.some.inj (h2.symm.trans (Stand.of_body B).code)
      intro x hx
      rw [Array.isEmpty_iff.mp h7] at hx
      cases hx
    obtain ⟨t, a1, o, b1, b2, b3⟩ := body p e s m args below meth c s₁ B hml ht hP s₁ hh0 (Stand.of_body B)
    exact ⟨t, o, a1, b1, b2, b3⟩
/-- the table of a body with handlers -/
theorem vx_table {p : Program} {x y : MethodName} {S : Spec} {cc bytes : ByteArray} {maxL maxL' : Nat} {ret ret' : Option FieldType} {e : Env} {s s₁ : State} {m : MethodId} {args : Array Value} {below : List Frame} {meth : Method} {c : Code} {hh : List (Nat × Nat × Nat × Nat)}
    (B : BodyLoose p l y S cc maxL ret e s m args below meth c s₁) (h : (Cond.codeWith y bytes maxL' ret' hh).before args s = true) : c.exceptionTable.toList = tableOf hh := by
  obtain ⟨m9, meth9, c9, hn9, h1, h2, -, -, h6, -⟩ := Cond.codeWith_spec h
  cases Option.some.inj (hn9.symm.trans B.named)
  cases Option.some.inj (h1.symm.trans B.method)
  cases Option.some.inj (h2.symm.trans (Stand.of_body B).code)
  rw [← h6, table_eq]
end Bodies
end VXA
/-! ===== END ===== -/
/-! ===== BEGIN a static call of a method with an exception table ===== -/
section VXS
variable {p : Program} {l : Launch} {e : Env} {R : Room} {s : State} {m : MethodId} {args : Array Value} {below : List Frame} {meth : Method} {c : Code} {T : State} {H : Heap} {locs : List Loc} {cells slots : Nat}
abbrev vx_CSW (R : Room) (s : State) (args : Array Value) (own : String) (index : Nat) (y : MethodName) (bytes : ByteArray) (maxL : Nat) (ret : Option FieldType) (hh : List (Nat × Nat × Nat × Nat)) (ws : List Cond) (rm : Room) (mc ms n : Nat) : Prop :=
  (rm.cells = mc ∧ rm.slots = ms ∧ rm.frames + 1 ≤ R.frames ∧ 8 + (maxL + 11) + rm.locals ≤ R.locals ∧ (∀ w ∈ ws, ∀ (a' : Array Value) (U : State), s.WarmedH U.vm → w.before a' U = true) ∧ Cond.codeWith y bytes maxL ret hh ∈ ws) ∧
  (Cond.codeWith y bytes maxL ret hh).before args s = true ∧ (Cond.initialized y.cls).before args s = true ∧ (y.cls ≠ "java/lang/invoke/MethodHandle" ∧ y.cls ≠ "java/lang/invoke/VarHandle") ∧
  (∀ sig, parseMethodDescriptor y.desc = some sig → n = sig.parameters.length) ∧ (Cond.methodLink own index y).before args s = true ∧ (Cond.static y).before args s = true
theorem vx_cwSW {own : String} {index maxL mc ms : Nat} {y : MethodName} {bytes : ByteArray} {ret : Option FieldType} {hh : List (Nat × Nat × Nat × Nat)} {Ts ws ws' : List Cond} {rm : Room} (n : Nat) (ht : ∀ w ∈ Ts, w.before args s = true) (hT : GoodIn Ts (va_wsS own index y ws)) (hw : ws = Cond.codeWith y bytes maxL ret hh :: ws') (hrc : rm.cells = mc) (hrs : rm.slots = ms)
    (hd : y.cls ≠ "java/lang/invoke/MethodHandle" ∧ y.cls ≠ "java/lang/invoke/VarHandle" ∧ (parseMethodDescriptor y.desc).map (fun d => d.parameters.length) = some n) (hR : rm.frames + 1 ≤ R.frames ∧ 8 + (maxL + 11) + rm.locals ≤ R.locals) :
    vx_CSW R s args own index y bytes maxL ret hh ws rm mc ms n := by
  have ok : ∀ w ∈ va_wsS own index y ws, w.before args s = true := fun w h => ht w (hT w h).1
  have hG : GoodIn Ts ws := fun w h => hT w (by unfold va_wsS; exact List.mem_append_right _ h)
  have hc : Cond.codeWith y bytes maxL ret hh ∈ ws := by rw [hw]; exact List.mem_cons_self
  refine ⟨⟨hrc, hrs, hR.1, hR.2, pay_in ht hG, hc⟩, ht _ (hG _ hc).1, ok _ (by simp [va_wsS]), ⟨hd.1, hd.2.1⟩, fun sig h => ?_, ok _ (by simp [va_wsS]), ok _ (by simp [va_wsS])⟩
  have h2 := hd.2.2
  rw [h] at h2
  exact (Option.some.inj h2).symm
theorem vx_callSW (X : Stand p l e R s m args below meth c T locs cells slots) (hexec : p.tables.exec = Jvm.exec) {own : String} {index : Nat} {y : MethodName} {bytes : ByteArray} {maxL : Nat} {ret : Option FieldType} {hh : List (Nat × Nat × Nat × Nat)}
    (hown : s.vm.findClass own = some m.cls) (hlink : (Cond.methodLink own index y).before args s = true) (hstat : (Cond.static y).before args s = true) (hinit : (Cond.initialized y.cls).before args s = true)
    (hcode : (Cond.codeWith y bytes maxL ret hh).before args s = true) (hy : y.cls ≠ "java/lang/invoke/MethodHandle" ∧ y.cls ≠ "java/lang/invoke/VarHandle")
    {W9 : Nat} {Pre : Pt → Array Value → Prop} {Post : Pt → Array Value → Option Value → Pt → Prop} (hK : Back l R p e below s args y 3 W9 Pre Post)
    {g : JFrame} (hg : g.method = m) (hsize : g.locals.size = c.maxLocals) {argsL rest : List Value} (hlen : ∀ sig, parseMethodDescriptor y.desc = some sig → argsL.length = sig.parameters.length)
    (hstack : g.stack = argsL.reverse ++ rest) (hW : 2 * g.monitorRoom + (rest.map fun v => v.category).sum ≤ W9) (hdg : decode c.code g.pc = .ok (.invokestatic index, 3))
    (hpre : ∀ vm₁, s.WarmedH vm₁ → Pre ⟨T.setVm vm₁, locs, cells, slots⟩ argsL.toArray) :
    ∃ (v : Option Value) (vm₁ : Vm) (B : Pt), s.WarmedH vm₁ ∧ Stand p l e R s m args below meth c B.U B.locs B.cells B.slots ∧ Post ⟨T.setVm vm₁, locs, cells, slots⟩ argsL.toArray v B ∧
      ∀ target, Steps p.tables e below (B.U.setTop { g with pc := g.pc + 3, stack := v.toList ++ rest }) target → Steps p.tables e below (T.setTop g) target := by
  obtain ⟨mk, methM, cM, hnamed, hmethM, -, -, -, -, -, -, hsigM⟩ := Cond.codeWith_spec hcode
  have hstatic : methM.isStatic = true := Cond.static_spec hnamed hmethM hstat
  obtain ⟨kP, hkP, -⟩ := className_of_methodNamed hnamed
  have hinitP : kP.init = .initialized := Cond.initialized_spec (findClass_of_methodNamed hnamed) hkP hinit
  obtain ⟨vm₁, X₁, hstep₁⟩ := X.invokestatic hexec hown hlink hnamed hmethM hstatic hkP hinitP hy (g := g) hg (argsL := argsL) (rest := rest) (hlen _ hsigM) hstack hdg
  obtain ⟨v, B, X', hpost, hsteps⟩ := hK m meth c ⟨T.setVm vm₁, locs, cells, slots⟩ { g with stack := rest } (.invokestatic index) mk argsL.toArray X₁ hg hsize hdg hW (X₁.named hnamed) (hpre vm₁ X₁.warmed)
  exact ⟨v, vm₁, B, X₁.warmed, X', hpost, fun target h => hstep₁ _ fun acts => by rw [doInvoke_state]; exact hsteps.trans h⟩
theorem vx_runSW {y : MethodName} {bytes cc : ByteArray} {maxL nL mc ms n index : Nat} {ret : Option FieldType} {hh : List (Nat × Nat × Nat × Nat)} {ws : List Cond} {rm : Room} {Pc : Array Value → State → Prop} {Qc : Array Value → State → Outcome → State → Prop} {free : Addr → Prop} {Ts : List Cond} {own : String} {As rest : List Value} {g : JFrame}
    (S : CallFix p m c cc nL s args Ts own) (hM : Met l y ws rm Pc Qc mc ms free) (cw : vx_CSW R s args own index y bytes maxL ret hh ws rm mc ms n) (hp : PreS s H Pc As)
    (hg : g.method = m) (hn : As.length = n) (hsize : g.locals.size = nL) (hstack : g.stack = As.reverse ++ rest) (hW : 2 * g.monitorRoom + (rest.map fun v => v.category).sum ≤ 8) (hdg : decode cc g.pc = .ok (.invokestatic index, 3)) (hf : cells + mc ≤ R.cells ∧ slots + ms ≤ R.slots) :
    va_Run p l e R s m args below meth c H locs cells slots mc ms g rest (Qc As.toArray) (free) := by
  obtain ⟨⟨hrc, hrs, hfr, hlo, hws, hcw⟩, hcode, hini, hy, hlen, hl, hstt⟩ := cw
  have hK : Back l R p e below s args y 3 8 (PreOf R mc ms Pc) (PostOf Qc mc ms free) := va_backW (hh := hh) (bytes := bytes) (maxL := maxL) (ret := ret) hM hp.1 hrc hrs hfr hlo hws hcw (fun a' U hW => word_at hW (Or.inl (by first | rfl | simp [Cond.onTables, Cond.keeps, Cond.steady])) hini)
  obtain ⟨hx, hb, hml, ho, -⟩ := S
  intro T hT X
  obtain ⟨v, vm₁, ⟨U', l2, c2, s2⟩, hW₁, X', ⟨g', mk, t, L, e1, e2, hq, h1, hL, h2, h3⟩, st⟩ := vx_callSW X hx (hh := hh) (bytes := bytes) (maxL := maxL) (ret := ret) ho hl hstt hini hcode hy hK hg (hsize.trans hml.symm) (argsL := As) (rest := rest) (fun sig h => hn.trans (hlen sig h)) hstack hW (by rw [hb]; exact hdg)
    (fun vm₁ hW₁ => ⟨hf.1, hf.2, hp.2 (T.setVm vm₁) hT hW₁⟩)
  dsimp only [Pt.U, Pt.locs, Pt.cells, Pt.slots] at X' e1 e2 h1 h2 h3 st
  subst h1; subst h2; subst h3
  exact ⟨v, (T.setVm vm₁).calling g' mk As.toArray, t, U', L, hT, X', hL, e1, e2, hq, st⟩
/-- not caught here, past rows that name other classes: it goes on to the caller -/
theorem vx_outP {p : Program} {l : Launch} {e : Env} {R : Room} {s : State} {m : MethodId} {args : Array Value} {below : List Frame} {meth : Method} {c : Code} {H : Heap} {locs : List Loc} {cells slots : Nat} {free : Addr → Prop} {ls : Array Slot} {rest : List Value} {Qc : Array Value → State → Outcome → State → Prop} {XC : String → State → State → Prop}
    {pc : Nat} {own E : String} {ce : Cell} {q : Addr} {mc ms : Nat} (hown : s.vm.findClass own = some m.cls) (hlocks : meth.locks = false)
    (hpass : ∀ z ∈ c.exceptionTable.toList, covers z pc = false ∨ (z.catchType ≠ 0 ∧ ∃ nm : String, (Cond.classLink own z.catchType nm).before args s = true ∧ va_Nc E nm s)) (hcell : H[q]? = some ce) (hv : ce.vm = .none) (hcl : s.vm.findClass E = some ce.cls)
    (hx : ∀ t : State, t.heap = H → s.vm.Alike t.vm → XC E s t) (hf : ∀ z ∈ locs, free z.base) (hc : cells ≤ mc) (hs : slots ≤ ms) :
    vx_W p l e R s m args below meth c H locs cells slots (vx_MQ below Qc XC args s mc ms free) (F0 m pc ls rest) q := by
  intro T hT X
  have hpl : e.platform.magicAccessors = ({} : Platform).magicAccessors := by rw [X.admits.platform]
  obtain ⟨vm', hW', X', st⟩ := X.outThrough hlocks q (g := F0 m pc ls rest) rfl rfl rfl (cell := ce) (by rw [hT]; exact hcell) (by rw [hv]; rfl)
    (by obtain ⟨k9, h9, -⟩ := Vm.findClass_spec hcl; exact ⟨k9, h9⟩) (fun z hz => by
      rcases hpass z hz with h | ⟨hz0, nm, hl1, hn1⟩
      · exact Or.inl h
      · obtain ⟨c6, hc6, hcl6⟩ := Cond.classLink_spec hown hl1 e.platform hpl
        obtain ⟨a8, b8, h1, h2, h3⟩ := hn1
        cases Option.some.inj (h1.symm.trans hcl)
        cases Option.some.inj (h2.symm.trans hc6)
        exact Or.inr ⟨hz0, _, hcl6, h3⟩)
  obtain ⟨g₀, hfr⟩ := X'.frames_eq
  have hcell9 : ((T.setVm vm').setFrames (.throwing q :: below)).heap[q]? = some ce := by
    show T.heap[q]? = some ce
    rw [hT]; exact hcell
  have hend : Ended ((T.setVm vm').setFrames (.throwing q :: below)) below (.threw q) := State.frames_setFrames _ (State.cur_lt_of_frames hfr)
  refine ⟨(T.setVm vm').setFrames (.throwing q :: below), ?_, .threw q, X'.here.running, hend, Or.inr ⟨q, rfl, E, ce, locs, hx _ hT (X'.ends _).1.alike, hcell9, hv, hcl, (X'.ends _).1, (X'.ends _).2.mono hc hs, hf⟩⟩
  rw [X.pushThrowing_eq]
  exact st
/-- a thing of a world lies in the heap -/
theorem vx_lt {D : va_G} {cl : List vw_C} {ws : va_W} {H1 : Heap} (h : va_P D cl ws H1) {k : Nat} {q : Nat × va_E} (hk : ws[k]? = some q) : q.1 < H1.size := (h k q hk).lt
end VXS
/-! ===== END ===== -/
/-! ===== BEGIN methods with a table of their own: called by a name, returning or throwing ===== -/
section VXH
/-! vx_backW, vx_callVX, vx_callSX, vx_callVW, vx_runVW, vx_runVX, vx_runSX, vx_ofWH follow the same proofs as their sisters above (Free/Laws.lean, Shelf42/LK1.lean); vx_outP calls Shelf42/NT130.lean (outThrough). -/
section
variable {l : Launch} {R : Room} {p : Program} {e : Env} {below : List Frame} {s : State} {sargs : Array Value} {y : MethodName} {len W9 : Nat}
theorem vx_backW {ws : List Cond} {rm : Room} {Pc : Array Value → State → Prop} {Qc : Array Value → State → Outcome → State → Prop} {XC : String → State → State → Prop} {mc ms : Nat} {free : Addr → Prop} {bytes : ByteArray} {maxL : Nat} {ret : Option FieldType} {hh : List (Nat × Nat × Nat × Nat)}
    (hM : vx_Met l y ws rm Pc Qc XC mc ms free) (hblind : FrameBlind Pc) (hrc : rm.cells = mc) (hrs : rm.slots = ms)
    (hframes : rm.frames + 1 ≤ R.frames) (hlocals : W9 + (maxL + 11) + rm.locals ≤ R.locals)
    (hws : ∀ w ∈ ws, ∀ a' U, s.WarmedH U.vm → w.before a' U = true) (hcode : Cond.codeWith y bytes maxL ret hh ∈ ws) (hinit : ∀ a' U, s.WarmedH U.vm → (Cond.initialized y.cls).before a' U = true) :
    vx_Back l R p e below s sargs y len W9 (PreOf R mc ms Pc) (PostOf Qc mc ms free) (vx_Post XC mc ms free) := by
  intro m meth c A g ig mk a X hg hsize hdg hW hn hp
  have h1 : (headSpec ws rm).pre.before a A.U = true := atoms_intro fun w hw => hws w hw _ _ X.warmed
  have h2 : (Cond.codeWith y bytes maxL ret hh).before a A.U = true := hws _ hcode _ _ X.warmed
  have h3 : (Cond.initialized y.cls).before a A.U = true := hinit _ _ X.warmed
  have h4 : A.cells + (headSpec ws rm).room.cells ≤ R.cells := by rw [show (headSpec ws rm).room.cells = mc from hrc]; exact hp.1
  have h5 : A.slots + (headSpec ws rm).room.slots ≤ R.slots := by rw [show (headSpec ws rm).room.slots = ms from hrs]; exact hp.2.1
  have hPc : Pc a (A.U.calling g mk a) := hblind _ _ _ _ hp.2.2
  obtain ⟨U, Ls, c0, s0⟩ := A
  dsimp only [Pt.U, Pt.locs, Pt.cells, Pt.slots] at h1 h2 h3 h4 h5 X hn hPc ⊢
  obtain ⟨m9, methY, cY, hn9, hmY, hcY, -, hlY, -⟩ := Cond.codeWith_spec h2
  cases Option.some.inj (hn9.symm.trans hn)
  obtain ⟨kY, hkY, -⟩ := className_of_methodNamed hn
  have hinitY : kY.init = .initialized := Cond.initialized_spec (findClass_of_methodNamed hn) hkY h3
  have h : At U g.method c below := by rw [hg]; exact X.here
  have hlocals9 : W9 + (maxL + 11) + (headSpec ws rm).room.locals ≤ R.locals := hlocals
  have happ : (headSpec ws rm).appliesLoose y e.platform (U.calling g mk a) = true :=
    Spec.appliesLoose_calling (g := g) h hdg hn hkY hinitY
      (X.room_calling (g := g) (R' := (headSpec ws rm).room) hsize hmY hcY hframes (by rw [hlY]; omega) h4 h5) h1
  obtain ⟨mid, hmid⟩ := h.above
  have hfr : (U.setTop g).frames = (.java g :: mid) ++ below := by rw [State.frames_setTop' g h.top, hmid]; rfl
  obtain ⟨o, s₂, hsteps, -, hend, hq⟩ := Steps.callFree hM p X.admits X.cas X.clock (acts := []) hfr happ hPc trivial
  have hq' : vx_Q Qc XC mc ms free a (U.calling g mk a) o s₂ := hq
  rw [State.frames_setTop' g h.top] at hend
  obtain ⟨g₀, hg0⟩ := Option.isSome_iff_exists.mp h.top
  obtain ⟨r, hr⟩ := State.topJava?_eq_some.mp hg0
  have hr' : (({ U with heap := s₂.heap, slotsUsed := s₂.slotsUsed } : State).setVm s₂.vm).frames = .java g₀ :: r := hr
  rcases hq' with ⟨hqc, L, hfe, hL⟩ | ⟨q, rfl, E, ce, L, hx, hce, hcv, hcl, hW₂, hsm, hL⟩
  · obtain ⟨⟨v, rfl⟩, hW₂, e2, q2, q3, q4, q5, q6⟩ := id hfe
    have e3 : s₂ = ({ (U.calling g mk a).setFrames s₂.frames with heap := s₂.heap, slotsUsed := s₂.slotsUsed } : State).setVm s₂.vm := by
      have : s₂ = ({ s₂ with vm := (U.calling g mk a).vm } : State).setVm s₂.vm := rfl
      rw [e2] at this
      exact this
    obtain ⟨c₂, i₂, len₂, hc₂, hd₂, hf₂⟩ := hend
    have hW' : U.WarmedH s₂.vm := hW₂
    have hcc : c₂ = c := by
      have h1 : s₂.code? g.method = U.code? g.method := by
        rw [State.code?_eq, State.code?_eq, hW'.alike.method?]
      exact Option.some.inj (hc₂.symm.trans (h1.trans h.code))
    subst hcc
    have hlen : len₂ = len := by rw [hdg] at hd₂; cases hd₂; rfl
    subst hlen
    have hs₂ : s₂ = (({ U with heap := s₂.heap, slotsUsed := s₂.slotsUsed } : State).setVm s₂.vm).setTop { g with pc := g.pc + len₂, stack := v.toList ++ g.stack } := by
      refine e3.trans ?_
      rw [hf₂, State.calling_eq h.top, State.setFrames_setFrames, State.setTop_of_frames _ hr', hr]
      rfl
    have hsame : U.sameButNew ({ U with heap := s₂.heap, slotsUsed := s₂.slotsUsed } : State) L mc ms := by
      refine ⟨?_, q2, q3, q4, q5, q6⟩
      obtain ⟨t, ht, -⟩ := State.frames_cons hr
      show ({ U with heap := s₂.heap, slotsUsed := s₂.slotsUsed } : State) = { U.setFrames U.frames with heap := s₂.heap, slotsUsed := s₂.slotsUsed }
      rw [State.setFrames_self ht]
    subst hg
    refine Or.inl ⟨v, ⟨(({ U with heap := s₂.heap, slotsUsed := s₂.slotsUsed } : State).setVm s₂.vm), Ls ++ L, c0 + mc, s0 + ms⟩,
      ⟨X.admits, X.cas, X.clock, X.frames, X.room, X.hears, X.method, X.code, (X.here.setHeapUsed s₂.heap s₂.slotsUsed).setVm hW'.alike, X.tail, State.WarmedH.trans X.warmed hW', X.limits, X.bytes, X.same.trans (hsame.setVm s.vm)⟩,
      ⟨g, mk, s₂, L, rfl, rfl, hqc, rfl, hL, rfl, rfl⟩, ?_⟩
    show Steps p.tables e below _ ((({ U with heap := s₂.heap, slotsUsed := s₂.slotsUsed } : State).setVm s₂.vm).setTop { g with pc := g.pc + len₂, stack := v.toList ++ g.stack })
    rw [← hs₂]
    exact hsteps
  · obtain ⟨e2, q2, q3, q4, q5, q6⟩ := id hsm
    have e3 : s₂ = ({ (U.calling g mk a).setFrames s₂.frames with heap := s₂.heap, slotsUsed := s₂.slotsUsed } : State).setVm s₂.vm := by
      have : s₂ = ({ s₂ with vm := (U.calling g mk a).vm } : State).setVm s₂.vm := rfl
      rw [e2] at this
      exact this
    have hf₂ : s₂.frames = .throwing q :: .java g :: U.frames.tail := hend
    have hW' : U.WarmedH s₂.vm := hW₂
    have hs₂ : s₂ = ((({ U with heap := s₂.heap, slotsUsed := s₂.slotsUsed } : State).setVm s₂.vm).setTop g).pushFrame (.throwing q) := by
      refine e3.trans ?_
      rw [hf₂, State.calling_eq h.top, State.setFrames_setFrames, State.pushFrame, State.frames_setTop _ hr', State.setTop_of_frames _ hr', State.setFrames_setFrames, hr]
      rfl
    have hsame : U.sameButNew ({ U with heap := s₂.heap, slotsUsed := s₂.slotsUsed } : State) L mc ms := by
      refine ⟨?_, q2, q3, q4, q5, q6⟩
      obtain ⟨t, ht, -⟩ := State.frames_cons hr
      show ({ U with heap := s₂.heap, slotsUsed := s₂.slotsUsed } : State) = { U.setFrames U.frames with heap := s₂.heap, slotsUsed := s₂.slotsUsed }
      rw [State.setFrames_self ht]
    subst hg
    refine Or.inr ⟨q, ⟨(({ U with heap := s₂.heap, slotsUsed := s₂.slotsUsed } : State).setVm s₂.vm), Ls ++ L, c0 + mc, s0 + ms⟩,
      ⟨X.admits, X.cas, X.clock, X.frames, X.room, X.hears, X.method, X.code, (X.here.setHeapUsed s₂.heap s₂.slotsUsed).setVm hW'.alike, X.tail, State.WarmedH.trans X.warmed hW', X.limits, X.bytes, X.same.trans (hsame.setVm s.vm)⟩,
      ⟨g, mk, s₂, L, E, ce, rfl, rfl, hx, hce, hcv, hcl, rfl, hL, rfl, rfl⟩, ?_⟩
    show Steps p.tables e below _ (((({ U with heap := s₂.heap, slotsUsed := s₂.slotsUsed } : State).setVm s₂.vm).setTop g).pushFrame (.throwing q))
    rw [← hs₂]
    exact hsteps
end
variable {p : Program} {l : Launch} {e : Env} {R : Room} {s : State} {m : MethodId} {args : Array Value} {below : List Frame} {meth : Method} {c : Code} {T : State} {H : Heap} {locs : List Loc} {cells slots : Nat}
theorem vx_callVX (X : Stand p l e R s m args below meth c T locs cells slots) (hexec : p.tables.exec = Jvm.exec) {own C : String} {index : Nat} {y : MethodName} {bytes : ByteArray} {maxL : Nat} {ret : Option FieldType} {hh : List (Nat × Nat × Nat × Nat)}
    (hown : s.vm.findClass own = some m.cls) (hlink : (Cond.methodLink own index y).before args s = true) (hinst : (Cond.instanceMethod y).before args s = true) (hsel : (Cond.selects C y y).before args s = true)
    (hcode : (Cond.codeWith y bytes maxL ret hh).before args s = true) (hy : y.cls ≠ "java/lang/invoke/MethodHandle" ∧ y.cls ≠ "java/lang/invoke/VarHandle")
    {W9 : Nat} {Pre : Pt → Array Value → Prop} {Post : Pt → Array Value → Option Value → Pt → Prop} {PostX : Pt → Array Value → Addr → Pt → Prop} (hK : vx_Back l R p e below s args y 3 W9 Pre Post PostX)
    {b : Addr} {cellB : Cell} (hcell : T.heap[b]? = some cellB) (hobj : cellB.vm.isStatics = false) (hcls : s.vm.findClass C = some cellB.cls)
    {g : JFrame} (hg : g.method = m) (hsize : g.locals.size = c.maxLocals) {argsL rest : List Value} (hlen : ∀ sig, parseMethodDescriptor y.desc = some sig → argsL.length = sig.parameters.length)
    (hstack : g.stack = argsL.reverse ++ .ref b :: rest) (hW : 2 * g.monitorRoom + (rest.map fun v => v.category).sum ≤ W9) (hdg : decode c.code g.pc = .ok (.invokevirtual index, 3))
    (hpre : ∀ vm₁, s.WarmedH vm₁ → Pre ⟨T.setVm vm₁, locs, cells, slots⟩ (Value.ref b :: argsL).toArray) :
    (∃ (v : Option Value) (vm₁ : Vm) (B : Pt), s.WarmedH vm₁ ∧ Stand p l e R s m args below meth c B.U B.locs B.cells B.slots ∧ Post ⟨T.setVm vm₁, locs, cells, slots⟩ (Value.ref b :: argsL).toArray v B ∧
      ∀ target, Steps p.tables e below (B.U.setTop { g with pc := g.pc + 3, stack := v.toList ++ rest }) target → Steps p.tables e below (T.setTop g) target) ∨
    (∃ (q : Addr) (vm₁ : Vm) (B : Pt), s.WarmedH vm₁ ∧ Stand p l e R s m args below meth c B.U B.locs B.cells B.slots ∧ PostX ⟨T.setVm vm₁, locs, cells, slots⟩ (Value.ref b :: argsL).toArray q B ∧
      Steps p.tables e below (T.setTop g) ((B.U.setTop { g with stack := rest }).pushFrame (.throwing q))) := by
  obtain ⟨mk, methM, hnamed, hmethM, hstM, habM⟩ := Cond.instanceMethod_spec hinst
  obtain ⟨m8, methM', cM, hn8, hmethM', -, -, -, -, -, -, hsigM⟩ := Cond.codeWith_spec hcode
  cases Option.some.inj (hn8.symm.trans hnamed)
  cases hmethM.symm.trans hmethM'
  obtain ⟨c2, r2, m2, q1, q2, q3, q4, kP, hkP, hkPi⟩ := Cond.selects_spec hsel
  cases hcls.symm.trans q1
  cases (State.methodFound?_of_named hnamed hy).symm.trans q2
  cases hnamed.symm.trans q3
  have hselP : selectMethod e.platform s.vm cellB.cls mk = .method mk := by rw [Launch.admits_selectMethod X.admits]; exact q4
  obtain ⟨vm₁, X₁, hstep₁⟩ := X.invokevirtual hexec hown hlink hnamed hmethM hstM hkP hkPi hy (a := b) (cell := cellB) hcell
    (fun z h => by rw [h] at hobj; cases hobj) hselP hmethM habM hkP hkPi (g := g) hg (argsL := argsL) (rest := rest) (hlen _ hsigM) hstack hdg
  rcases hK m meth c ⟨T.setVm vm₁, locs, cells, slots⟩ { g with stack := rest } (.invokevirtual index) mk (Value.ref b :: argsL).toArray X₁ hg hsize hdg hW (X₁.named hnamed) (hpre vm₁ X₁.warmed) with ⟨v, B, X', hpost, hsteps⟩ | ⟨q, B, X', hpost, hsteps⟩
  · exact Or.inl ⟨v, vm₁, B, X₁.warmed, X', hpost, fun target h => hstep₁ _ fun acts => by rw [doInvoke_state]; exact hsteps.trans h⟩
  · exact Or.inr ⟨q, vm₁, B, X₁.warmed, X', hpost, hstep₁ _ fun acts => by rw [doInvoke_state]; exact hsteps⟩
theorem vx_callSX (X : Stand p l e R s m args below meth c T locs cells slots) (hexec : p.tables.exec = Jvm.exec) {own : String} {index : Nat} {y : MethodName} {bytes : ByteArray} {maxL : Nat} {ret : Option FieldType} {hh : List (Nat × Nat × Nat × Nat)}
    (hown : s.vm.findClass own = some m.cls) (hlink : (Cond.methodLink own index y).before args s = true) (hstat : (Cond.static y).before args s = true) (hinit : (Cond.initialized y.cls).before args s = true)
    (hcode : (Cond.codeWith y bytes maxL ret hh).before args s = true) (hy : y.cls ≠ "java/lang/invoke/MethodHandle" ∧ y.cls ≠ "java/lang/invoke/VarHandle")
    {W9 : Nat} {Pre : Pt → Array Value → Prop} {Post : Pt → Array Value → Option Value → Pt → Prop} {PostX : Pt → Array Value → Addr → Pt → Prop} (hK : vx_Back l R p e below s args y 3 W9 Pre Post PostX)
    {g : JFrame} (hg : g.method = m) (hsize : g.locals.size = c.maxLocals) {argsL rest : List Value} (hlen : ∀ sig, parseMethodDescriptor y.desc = some sig → argsL.length = sig.parameters.length)
    (hstack : g.stack = argsL.reverse ++ rest) (hW : 2 * g.monitorRoom + (rest.map fun v => v.category).sum ≤ W9) (hdg : decode c.code g.pc = .ok (.invokestatic index, 3))
    (hpre : ∀ vm₁, s.WarmedH vm₁ → Pre ⟨T.setVm vm₁, locs, cells, slots⟩ argsL.toArray) :
    (∃ (v : Option Value) (vm₁ : Vm) (B : Pt), s.WarmedH vm₁ ∧ Stand p l e R s m args below meth c B.U B.locs B.cells B.slots ∧ Post ⟨T.setVm vm₁, locs, cells, slots⟩ argsL.toArray v B ∧
      ∀ target, Steps p.tables e below (B.U.setTop { g with pc := g.pc + 3, stack := v.toList ++ rest }) target → Steps p.tables e below (T.setTop g) target) ∨
    (∃ (q : Addr) (vm₁ : Vm) (B : Pt), s.WarmedH vm₁ ∧ Stand p l e R s m args below meth c B.U B.locs B.cells B.slots ∧ PostX ⟨T.setVm vm₁, locs, cells, slots⟩ argsL.toArray q B ∧
      Steps p.tables e below (T.setTop g) ((B.U.setTop { g with stack := rest }).pushFrame (.throwing q))) := by
  obtain ⟨mk, methM, cM, hnamed, hmethM, -, -, -, -, -, -, hsigM⟩ := Cond.codeWith_spec hcode
  have hstatic : methM.isStatic = true := Cond.static_spec hnamed hmethM hstat
  obtain ⟨kP, hkP, -⟩ := className_of_methodNamed hnamed
  have hinitP : kP.init = .initialized := Cond.initialized_spec (findClass_of_methodNamed hnamed) hkP hinit
  obtain ⟨vm₁, X₁, hstep₁⟩ := X.invokestatic hexec hown hlink hnamed hmethM hstatic hkP hinitP hy (g := g) hg (argsL := argsL) (rest := rest) (hlen _ hsigM) hstack hdg
  rcases hK m meth c ⟨T.setVm vm₁, locs, cells, slots⟩ { g with stack := rest } (.invokestatic index) mk argsL.toArray X₁ hg hsize hdg hW (X₁.named hnamed) (hpre vm₁ X₁.warmed) with ⟨v, B, X', hpost, hsteps⟩ | ⟨q, B, X', hpost, hsteps⟩
  · exact Or.inl ⟨v, vm₁, B, X₁.warmed, X', hpost, fun target h => hstep₁ _ fun acts => by rw [doInvoke_state]; exact hsteps.trans h⟩
  · exact Or.inr ⟨q, vm₁, B, X₁.warmed, X', hpost, hstep₁ _ fun acts => by rw [doInvoke_state]; exact hsteps⟩
theorem vx_callVW (X : Stand p l e R s m args below meth c T locs cells slots) (hexec : p.tables.exec = Jvm.exec) {own C : String} {index : Nat} {y : MethodName} {bytes : ByteArray} {maxL : Nat} {ret : Option FieldType} {hh : List (Nat × Nat × Nat × Nat)}
    (hown : s.vm.findClass own = some m.cls) (hlink : (Cond.methodLink own index y).before args s = true) (hinst : (Cond.instanceMethod y).before args s = true) (hsel : (Cond.selects C y y).before args s = true)
    (hcode : (Cond.codeWith y bytes maxL ret hh).before args s = true) (hy : y.cls ≠ "java/lang/invoke/MethodHandle" ∧ y.cls ≠ "java/lang/invoke/VarHandle")
    {W9 : Nat} {Pre : Pt → Array Value → Prop} {Post : Pt → Array Value → Option Value → Pt → Prop} (hK : Back l R p e below s args y 3 W9 Pre Post)
    {b : Addr} {cellB : Cell} (hcell : T.heap[b]? = some cellB) (hobj : cellB.vm.isStatics = false) (hcls : s.vm.findClass C = some cellB.cls)
    {g : JFrame} (hg : g.method = m) (hsize : g.locals.size = c.maxLocals) {argsL rest : List Value} (hlen : ∀ sig, parseMethodDescriptor y.desc = some sig → argsL.length = sig.parameters.length)
    (hstack : g.stack = argsL.reverse ++ .ref b :: rest) (hW : 2 * g.monitorRoom + (rest.map fun v => v.category).sum ≤ W9) (hdg : decode c.code g.pc = .ok (.invokevirtual index, 3))
    (hpre : ∀ vm₁, s.WarmedH vm₁ → Pre ⟨T.setVm vm₁, locs, cells, slots⟩ (Value.ref b :: argsL).toArray) :
    ∃ (v : Option Value) (vm₁ : Vm) (B : Pt), s.WarmedH vm₁ ∧ Stand p l e R s m args below meth c B.U B.locs B.cells B.slots ∧ Post ⟨T.setVm vm₁, locs, cells, slots⟩ (Value.ref b :: argsL).toArray v B ∧
      ∀ target, Steps p.tables e below (B.U.setTop { g with pc := g.pc + 3, stack := v.toList ++ rest }) target → Steps p.tables e below (T.setTop g) target := by
  obtain ⟨mk, methM, hnamed, hmethM, hstM, habM⟩ := Cond.instanceMethod_spec hinst
  obtain ⟨m8, methM', cM, hn8, hmethM', -, -, -, -, -, -, hsigM⟩ := Cond.codeWith_spec hcode
  cases Option.some.inj (hn8.symm.trans hnamed)
  cases hmethM.symm.trans hmethM'
  obtain ⟨c2, r2, m2, q1, q2, q3, q4, kP, hkP, hkPi⟩ := Cond.selects_spec hsel
  cases hcls.symm.trans q1
  cases (State.methodFound?_of_named hnamed hy).symm.trans q2
  cases hnamed.symm.trans q3
  have hselP : selectMethod e.platform s.vm cellB.cls mk = .method mk := by rw [Launch.admits_selectMethod X.admits]; exact q4
  obtain ⟨vm₁, X₁, hstep₁⟩ := X.invokevirtual hexec hown hlink hnamed hmethM hstM hkP hkPi hy (a := b) (cell := cellB) hcell
    (fun z h => by rw [h] at hobj; cases hobj) hselP hmethM habM hkP hkPi (g := g) hg (argsL := argsL) (rest := rest) (hlen _ hsigM) hstack hdg
  obtain ⟨v, B, X', hpost, hsteps⟩ := hK m meth c ⟨T.setVm vm₁, locs, cells, slots⟩ { g with stack := rest } (.invokevirtual index) mk (Value.ref b :: argsL).toArray X₁ hg hsize hdg hW (X₁.named hnamed) (hpre vm₁ X₁.warmed)
  exact ⟨v, vm₁, B, X₁.warmed, X', hpost, fun target h => hstep₁ _ fun acts => by rw [doInvoke_state]; exact hsteps.trans h⟩
abbrev vx_CVW (R : Room) (s : State) (args : Array Value) (own C : String) (index : Nat) (y : MethodName) (bytes : ByteArray) (maxL : Nat) (ret : Option FieldType) (hh : List (Nat × Nat × Nat × Nat)) (ws : List Cond) (rm : Room) (mc ms n : Nat) : Prop :=
  (rm.cells = mc ∧ rm.slots = ms ∧ rm.frames + 1 ≤ R.frames ∧ 8 + (maxL + 11) + rm.locals ≤ R.locals ∧ (∀ w ∈ ws, ∀ (a' : Array Value) (U : State), s.WarmedH U.vm → w.before a' U = true) ∧ Cond.codeWith y bytes maxL ret hh ∈ ws) ∧
  (Cond.codeWith y bytes maxL ret hh).before args s = true ∧ (Cond.initialized y.cls).before args s = true ∧ (y.cls ≠ "java/lang/invoke/MethodHandle" ∧ y.cls ≠ "java/lang/invoke/VarHandle") ∧
  (∀ sig, parseMethodDescriptor y.desc = some sig → n = sig.parameters.length) ∧ (Cond.methodLink own index y).before args s = true ∧ (Cond.instanceMethod y).before args s = true ∧ (Cond.selects C y y).before args s = true
theorem vx_cwVW {own C : String} {index maxL mc ms : Nat} {y : MethodName} {bytes : ByteArray} {ret : Option FieldType} {hh : List (Nat × Nat × Nat × Nat)} {Ts ws ws' : List Cond} {rm : Room} (n : Nat) (ht : ∀ w ∈ Ts, w.before args s = true) (hT : GoodIn Ts (wsV own index C y ws)) (hw : ws = Cond.codeWith y bytes maxL ret hh :: ws') (hrc : rm.cells = mc) (hrs : rm.slots = ms)
    (hd : y.cls = C ∧ y.cls ≠ "java/lang/invoke/MethodHandle" ∧ y.cls ≠ "java/lang/invoke/VarHandle" ∧ (parseMethodDescriptor y.desc).map (fun d => d.parameters.length) = some n) (hR : rm.frames + 1 ≤ R.frames ∧ 8 + (maxL + 11) + rm.locals ≤ R.locals) :
    vx_CVW R s args own C index y bytes maxL ret hh ws rm mc ms n := by
  obtain ⟨hC, hd⟩ := hd
  subst hC
  have ok : ∀ w ∈ wsV own index y.cls y ws, w.before args s = true := fun w h => ht w (hT w h).1
  have hG : GoodIn Ts ws := fun w h => hT w (by unfold wsV; exact List.mem_append_right _ h)
  have hc : Cond.codeWith y bytes maxL ret hh ∈ ws := by rw [hw]; exact List.mem_cons_self
  refine ⟨⟨hrc, hrs, hR.1, hR.2, pay_in ht hG, hc⟩, ht _ (hG _ hc).1, ok _ (by simp [wsV]), ⟨hd.1, hd.2.1⟩, fun sig h => ?_, ok _ (by simp [wsV]), ok _ (by simp [wsV]), ok _ (by simp [wsV])⟩
  have h2 := hd.2.2
  rw [h] at h2
  exact (Option.some.inj h2).symm
theorem vx_runVW {y : MethodName} {bytes cc : ByteArray} {maxL nL mc ms n index : Nat} {ret : Option FieldType} {hh : List (Nat × Nat × Nat × Nat)} {ws : List Cond} {rm : Room} {Pc : Array Value → State → Prop} {Qc : Array Value → State → Outcome → State → Prop} {free : Addr → Prop} {Ts : List Cond} {own C : String} {b : Addr} {As rest : List Value} {g : JFrame}
    (S : CallFix p m c cc nL s args Ts own) (hM : Met l y ws rm Pc Qc mc ms free) (cw : vx_CVW R s args own C index y bytes maxL ret hh ws rm mc ms n) (hp : PreV s H C b Pc As)
    (hg : g.method = m) (hn : As.length = n) (hsize : g.locals.size = nL) (hstack : g.stack = As.reverse ++ .ref b :: rest) (hW : 2 * g.monitorRoom + (rest.map fun v => v.category).sum ≤ 8) (hdg : decode cc g.pc = .ok (.invokevirtual index, 3)) (hf : cells + mc ≤ R.cells ∧ slots + ms ≤ R.slots) :
    va_Run p l e R s m args below meth c H locs cells slots mc ms g rest (Qc (Value.ref b :: As).toArray) free := by
  obtain ⟨⟨hrc, hrs, hfr, hlo, hws, hcw⟩, hcode, hini, hy, hlen, hl, hin, hse⟩ := cw
  have hK : Back l R p e below s args y 3 8 (PreOf R mc ms Pc) (PostOf Qc mc ms free) := va_backW (hh := hh) (bytes := bytes) (maxL := maxL) (ret := ret) hM hp.1 hrc hrs hfr hlo hws hcw (fun a' U hW => word_at hW (Or.inl (by first | rfl | simp [Cond.onTables, Cond.keeps, Cond.steady])) hini)
  obtain ⟨hx, hb, hml, ho, -⟩ := S
  obtain ⟨-, ⟨cellB, hcB, hoB, hclB⟩, hPc⟩ := hp
  intro T hT X
  obtain ⟨v, vm₁, ⟨U', l2, c2, s2⟩, hW₁, X', ⟨g', mk, t, L, e1, e2, hq, h1, hL, h2, h3⟩, st⟩ := vx_callVW X hx (C := C) (hh := hh) (bytes := bytes) (maxL := maxL) (ret := ret) ho hl hin hse hcode hy hK (by rw [hT]; exact hcB) hoB hclB hg (hsize.trans hml.symm) (argsL := As) (rest := rest) (fun sig h => hn.trans (hlen sig h)) hstack hW (by rw [hb]; exact hdg)
    (fun vm₁ hW₁ => ⟨hf.1, hf.2, hPc (T.setVm vm₁) hT hW₁⟩)
  dsimp only [Pt.U, Pt.locs, Pt.cells, Pt.slots] at X' e1 e2 h1 h2 h3 st
  subst h1; subst h2; subst h3
  exact ⟨v, (T.setVm vm₁).calling g' mk (Value.ref b :: As).toArray, t, U', L, hT, X', hL, e1, e2, hq, st⟩
section
variable {y : MethodName} {bytes cc : ByteArray} {maxL nL mc ms n index : Nat} {ret : Option FieldType} {ws : List Cond} {rm : Room} {Pc : Array Value → State → Prop} {Qc : Array Value → State → Outcome → State → Prop} {XC : String → State → State → Prop} {free : Addr → Prop} {Ts : List Cond} {own C : String} {b : Addr} {As rest : List Value} {g : JFrame}
theorem vx_runVX {hh : List (Nat × Nat × Nat × Nat)} (S : CallFix p m c cc nL s args Ts own) (hM : vx_Met l y ws rm Pc Qc XC mc ms free) (cw : vx_CVW R s args own C index y bytes maxL ret hh ws rm mc ms n) (hp : PreV s H C b Pc As)
    (hg : g.method = m) (hn : As.length = n) (hsize : g.locals.size = nL) (hstack : g.stack = As.reverse ++ .ref b :: rest) (hW : 2 * g.monitorRoom + (rest.map fun v => v.category).sum ≤ 8) (hdg : decode cc g.pc = .ok (.invokevirtual index, 3)) (hf : cells + mc ≤ R.cells ∧ slots + ms ≤ R.slots) :
    vx_Run p l e R s m args below meth c H locs cells slots mc ms g rest (Qc (Value.ref b :: As).toArray) XC free := by
  obtain ⟨⟨hrc, hrs, hfr, hlo, hws, hcw⟩, hcode, hini, hy, hlen, hl, hin, hse⟩ := cw
  have hK : vx_Back l R p e below s args y 3 8 (PreOf R mc ms Pc) (PostOf Qc mc ms free) (vx_Post XC mc ms free) := vx_backW (hh := hh) (bytes := bytes) (maxL := maxL) (ret := ret) hM hp.1 hrc hrs hfr hlo hws hcw (fun a' U hW => word_at hW (Or.inl (by first | rfl | simp [Cond.onTables, Cond.keeps, Cond.steady])) hini)
  obtain ⟨hx, hb, hml, ho, -⟩ := S
  obtain ⟨-, ⟨cellB, hcB, hoB, hclB⟩, hPc⟩ := hp
  intro T hT X
  rcases vx_callVX X hx (C := C) (hh := hh) (bytes := bytes) (maxL := maxL) (ret := ret) ho hl hin hse hcode hy hK (by rw [hT]; exact hcB) hoB hclB hg (hsize.trans hml.symm) (argsL := As) (rest := rest) (fun sig h => hn.trans (hlen sig h)) hstack hW (by rw [hb]; exact hdg)
    (fun vm₁ hW₁ => ⟨hf.1, hf.2, hPc (T.setVm vm₁) hT hW₁⟩) with ⟨v, vm₁, ⟨U', l2, c2, s2⟩, hW₁, X', ⟨g', mk, t, L, e1, e2, hq, h1, hL, h2, h3⟩, st⟩ | ⟨q, vm₁, ⟨U', l2, c2, s2⟩, hW₁, X', ⟨g', mk, t, L, E, ce, e1, e2, hq, hce, hcv, hcl, h1, hL, h2, h3⟩, st⟩
  · dsimp only [Pt.U, Pt.locs, Pt.cells, Pt.slots] at X' e1 e2 h1 h2 h3 st
    subst h1; subst h2; subst h3
    exact Or.inl ⟨v, (T.setVm vm₁).calling g' mk (Value.ref b :: As).toArray, t, U', L, hT, X', hL, e1, e2, hq, st⟩
  · dsimp only [Pt.U, Pt.locs, Pt.cells, Pt.slots] at X' e1 e2 h1 h2 h3 st hcl
    subst h1; subst h2; subst h3
    exact Or.inr ⟨q, (T.setVm vm₁).calling g' mk (Value.ref b :: As).toArray, t, U', L, E, ce, hT, X', hL, e1, e2, hq, hce, hcv, vx_cls hW₁ hcl, st⟩
theorem vx_runSX {hh : List (Nat × Nat × Nat × Nat)} (S : CallFix p m c cc nL s args Ts own) (hM : vx_Met l y ws rm Pc Qc XC mc ms free) (cw : vx_CSW R s args own index y bytes maxL ret hh ws rm mc ms n) (hp : PreS s H Pc As)
    (hg : g.method = m) (hn : As.length = n) (hsize : g.locals.size = nL) (hstack : g.stack = As.reverse ++ rest) (hW : 2 * g.monitorRoom + (rest.map fun v => v.category).sum ≤ 8) (hdg : decode cc g.pc = .ok (.invokestatic index, 3)) (hf : cells + mc ≤ R.cells ∧ slots + ms ≤ R.slots) :
    vx_Run p l e R s m args below meth c H locs cells slots mc ms g rest (Qc As.toArray) XC free := by
  obtain ⟨⟨hrc, hrs, hfr, hlo, hws, hcw⟩, hcode, hini, hy, hlen, hl, hstt⟩ := cw
  have hK : vx_Back l R p e below s args y 3 8 (PreOf R mc ms Pc) (PostOf Qc mc ms free) (vx_Post XC mc ms free) := vx_backW (hh := hh) (bytes := bytes) (maxL := maxL) (ret := ret) hM hp.1 hrc hrs hfr hlo hws hcw (fun a' U hW => word_at hW (Or.inl (by first | rfl | simp [Cond.onTables, Cond.keeps, Cond.steady])) hini)
  obtain ⟨hx, hb, hml, ho, -⟩ := S
  intro T hT X
  rcases vx_callSX X hx (hh := hh) (bytes := bytes) (maxL := maxL) (ret := ret) ho hl hstt hini hcode hy hK hg (hsize.trans hml.symm) (argsL := As) (rest := rest) (fun sig h => hn.trans (hlen sig h)) hstack hW (by rw [hb]; exact hdg)
    (fun vm₁ hW₁ => ⟨hf.1, hf.2, hp.2 (T.setVm vm₁) hT hW₁⟩) with ⟨v, vm₁, ⟨U', l2, c2, s2⟩, hW₁, X', ⟨g', mk, t, L, e1, e2, hq, h1, hL, h2, h3⟩, st⟩ | ⟨q, vm₁, ⟨U', l2, c2, s2⟩, hW₁, X', ⟨g', mk, t, L, E, ce, e1, e2, hq, hce, hcv, hcl, h1, hL, h2, h3⟩, st⟩
  · dsimp only [Pt.U, Pt.locs, Pt.cells, Pt.slots] at X' e1 e2 h1 h2 h3 st
    subst h1; subst h2; subst h3
    exact Or.inl ⟨v, (T.setVm vm₁).calling g' mk As.toArray, t, U', L, hT, X', hL, e1, e2, hq, st⟩
  · dsimp only [Pt.U, Pt.locs, Pt.cells, Pt.slots] at X' e1 e2 h1 h2 h3 st hcl
    subst h1; subst h2; subst h3
    exact Or.inr ⟨q, (T.setVm vm₁).calling g' mk As.toArray, t, U', L, E, ce, hT, X', hL, e1, e2, hq, hce, hcv, vx_cls hW₁ hcl, st⟩
end
end VXH
theorem vx_ofWH {l : Launch} {y : MethodName} {ws ws' : List Cond} {rm : Room} {Pc : Array Value → State → Prop} {Qc : Array Value → State → Outcome → State → Prop} {XC : String → State → State → Prop} {mc ms : Nat} {free : Addr → Prop} {cc : ByteArray} {maxL : Nat} {ret : Option FieldType} {hh : List (Nat × Nat × Nat × Nat)}
    (hy : plainName y.cls = true) (hw : ws = Cond.codeWith y cc maxL ret hh :: ws')
    (body : ∀ p e s m args below meth c s₁, BodyLoose p l y (headSpec ws rm) cc maxL ret e s m args below meth c s₁ → c.maxLocals = maxL → Pc args s →
      W p l e (headSpec ws rm).room s m args below meth c s.heap [] 0 0 (vx_MQ below Qc XC args s mc ms free) (entryFrame m args maxL)) : vx_Met l y ws rm Pc Qc XC mc ms free := by
  refine MetFree.of_bodyS (code := cc) (maxLocals := maxL) (ret := ret) hy ?_ ?_
  · intro args s m h hn
    obtain ⟨m9, meth, c, hn9, h1, h2, h3, h4, -, h5, h6, -⟩ := Cond.codeWith_spec (atoms_spec (ws := ws) h _ (by rw [hw]; exact List.mem_cons_self))
    cases hn.symm.trans hn9
    exact ⟨meth, c, h1, h2, h3, h4, h5, h6⟩
  · intro p e s m args below meth c s₁ B hml hP _
    have hh0 : s₁.heap = s.heap := by rw [B.state]; rfl
    obtain ⟨t, a1, o, b1, b2, b3⟩ := body p e s m args below meth c s₁ B hml hP s₁ hh0 (Stand.of_body B)
    exact ⟨t, o, a1, b1, b2, b3⟩
/-! ===== END ===== -/

def RX0 : String := "StreetOrgans$Pipes"
def TX0 : u_T := fun k => match k with
  | 0 => ("StreetOrgans$Pipes", "worn", "[I", true)
  | 1 => ("StreetOrgans$Pipes", "off", "[I", true)
  | 2 => ("StreetOrgans$Pipes", "cricket", "[Z", true)
  | _ => ("StreetOrgans$Pipes", "playedToday", "[Z", true)
def tyX0 : Nat → FieldType := fun k => match k with
  | 0 => .array .int
  | 1 => .array .int
  | 2 => .array .boolean
  | _ => .array .boolean
abbrev wsX00 : List Cond := u_ws RX0 TX0 4
theorem nmX0 : ∀ a, a < 4 → ∀ b, b < 4 → a ≠ b → (TX0 a).2.1 ≠ (TX0 b).2.1 := by decide +kernel
theorem tyX0_ok : ∀ k, k < 4 → parseFieldDescriptor (TX0 k).2.2.1 = some (tyX0 k) := by decide +kernel
abbrev cX0_init : ByteArray := prog_2_method_1_code
def yX0_init : MethodName := ⟨RX0, "<init>", "()V"⟩
abbrev cX0_become : ByteArray := prog_2_method_2_code
def yX0_become : MethodName := ⟨RX0, "become", "(LStreetOrgans$Pipes;)V"⟩
abbrev cX0_harmOf : ByteArray := prog_2_method_3_code
def yX0_harmOf : MethodName := ⟨RX0, "harmOf", "(I)I"⟩
abbrev cX0_wear : ByteArray := prog_2_method_4_code
def yX0_wear : MethodName := ⟨RX0, "wear", "(II)V"⟩
abbrev cX0_shift : ByteArray := prog_2_method_5_code
def yX0_shift : MethodName := ⟨RX0, "shift", "(II)V"⟩
abbrev cX0_passNight : ByteArray := prog_2_method_6_code
def yX0_passNight : MethodName := ⟨RX0, "passNight", "(I)I"⟩
abbrev cX0_clearCrickets : ByteArray := prog_2_method_7_code
def yX0_clearCrickets : MethodName := ⟨RX0, "clearCrickets", "()V"⟩
abbrev cX0_cricketCount : ByteArray := prog_2_method_8_code
def yX0_cricketCount : MethodName := ⟨RX0, "cricketCount", "()I"⟩
abbrev cX0_wornInAll : ByteArray := prog_2_method_9_code
def yX0_wornInAll : MethodName := ⟨RX0, "wornInAll", "()I"⟩
abbrev cX0_offInAll : ByteArray := prog_2_method_10_code
def yX0_offInAll : MethodName := ⟨RX0, "offInAll", "()I"⟩
abbrev cX0_sumUp : ByteArray := prog_2_method_11_code
def yX0_sumUp : MethodName := ⟨RX0, "sumUp", "(I)I"⟩
abbrev cX0_tell : ByteArray := prog_2_method_12_code
def yX0_tell : MethodName := ⟨RX0, "tell", "(II)I"⟩
def RX1 : String := "StreetOrgans$Street"
def TX1 : u_T := fun k => match k with
  | 0 => ("StreetOrgans$Street", "heard", "[I", true)
  | 1 => ("StreetOrgans$Street", "listeners", "I", false)
  | 2 => ("StreetOrgans$Street", "permits", "I", false)
  | _ => ("StreetOrgans$Street", "paid", "I", false)
def tyX1 : Nat → FieldType := fun k => match k with
  | 0 => .array .int
  | 1 => .int
  | 2 => .int
  | _ => .int
abbrev wsX10 : List Cond := u_ws RX1 TX1 4
theorem nmX1 : ∀ a, a < 4 → ∀ b, b < 4 → a ≠ b → (TX1 a).2.1 ≠ (TX1 b).2.1 := by decide +kernel
theorem tyX1_ok : ∀ k, k < 4 → parseFieldDescriptor (TX1 k).2.2.1 = some (tyX1 k) := by decide +kernel
abbrev cX1_init : ByteArray := prog_3_method_1_code
def yX1_init : MethodName := ⟨RX1, "<init>", "()V"⟩
abbrev cX1_isPermittedOn : ByteArray := prog_3_method_2_code
def yX1_isPermittedOn : MethodName := ⟨RX1, "isPermittedOn", "(I)Z"⟩
abbrev cX1_payFor : ByteArray := prog_3_method_3_code
def yX1_payFor : MethodName := ⟨RX1, "payFor", "(II)I"⟩
abbrev cX1_forgetDay : ByteArray := prog_3_method_4_code
def yX1_forgetDay : MethodName := ⟨RX1, "forgetDay", "()V"⟩
abbrev cX1_heardInAll : ByteArray := prog_3_method_5_code
def yX1_heardInAll : MethodName := ⟨RX1, "heardInAll", "()I"⟩
abbrev cX1_tell : ByteArray := prog_3_method_6_code
def yX1_tell : MethodName := ⟨RX1, "tell", "(II)I"⟩
def RX2 : String := "StreetOrgans$Tune"
def TX2 : u_T := fun k => match k with
  | 0 => ("StreetOrgans$Tune", "notes", "[I", true)
  | 1 => ("StreetOrgans$Tune", "times", "[I", true)
  | _ => ("StreetOrgans$Tune", "length", "I", false)
def tyX2 : Nat → FieldType := fun k => match k with
  | 0 => .array .int
  | 1 => .array .int
  | _ => .int
abbrev wsX20 : List Cond := u_ws RX2 TX2 3
theorem nmX2 : ∀ a, a < 3 → ∀ b, b < 3 → a ≠ b → (TX2 a).2.1 ≠ (TX2 b).2.1 := by decide +kernel
theorem tyX2_ok : ∀ k, k < 3 → parseFieldDescriptor (TX2 k).2.2.1 = some (tyX2 k) := by decide +kernel
abbrev cX2_init : ByteArray := prog_4_method_1_code
def yX2_init : MethodName := ⟨RX2, "<init>", "()V"⟩
abbrev cX2_append : ByteArray := prog_4_method_2_code
def yX2_append : MethodName := ⟨RX2, "append", "(I)I"⟩
abbrev cX2_soundOf : ByteArray := prog_4_method_3_code
def yX2_soundOf : MethodName := ⟨RX2, "soundOf", "(LStreetOrgans$Pipes;)I"⟩
abbrev cX2_soundSparing : ByteArray := prog_4_method_4_code
def yX2_soundSparing : MethodName := ⟨RX2, "soundSparing", "(LStreetOrgans$Pipes;I)I"⟩
abbrev cX2_wearDown : ByteArray := prog_4_method_5_code
def yX2_wearDown : MethodName := ⟨RX2, "wearDown", "(LStreetOrgans$Pipes;)V"⟩
def RX3 : String := "StreetOrgans"
def TX3 : u_T := fun k => match k with
  | 0 => ("StreetOrgans", "pipes", "LStreetOrgans$Pipes;", true)
  | 1 => ("StreetOrgans", "trial", "LStreetOrgans$Pipes;", true)
  | 2 => ("StreetOrgans", "tunes", "[LStreetOrgans$Tune;", true)
  | 3 => ("StreetOrgans", "streets", "[LStreetOrgans$Street;", true)
  | 4 => ("StreetOrgans", "damp", "[I", true)
  | 5 => ("StreetOrgans", "tuneCount", "I", false)
  | 6 => ("StreetOrgans", "streetCount", "I", false)
  | 7 => ("StreetOrgans", "day", "I", false)
  | 8 => ("StreetOrgans", "coins", "I", false)
  | _ => ("StreetOrgans", "fines", "I", false)
def tyX3 : Nat → FieldType := fun k => match k with
  | 0 => .object "StreetOrgans$Pipes"
  | 1 => .object "StreetOrgans$Pipes"
  | 2 => .array (.object "StreetOrgans$Tune")
  | 3 => .array (.object "StreetOrgans$Street")
  | 4 => .array .int
  | 5 => .int
  | 6 => .int
  | 7 => .int
  | 8 => .int
  | _ => .int
abbrev wsX30 : List Cond := u_ws RX3 TX3 10
theorem nmX3 : ∀ a, a < 10 → ∀ b, b < 10 → a ≠ b → (TX3 a).2.1 ≠ (TX3 b).2.1 := by decide +kernel
theorem tyX3_ok : ∀ k, k < 10 → parseFieldDescriptor (TX3 k).2.2.1 = some (tyX3 k) := by decide +kernel
abbrev cX3_init : ByteArray := prog_1_method_1_code
def yX3_init : MethodName := ⟨RX3, "<init>", "()V"⟩
abbrev cX3_barrel : ByteArray := prog_1_method_2_code
def yX3_barrel : MethodName := ⟨RX3, "barrel", "()I"⟩
abbrev cX3_pin : ByteArray := prog_1_method_3_code
def yX3_pin : MethodName := ⟨RX3, "pin", "(II)I"⟩
abbrev cX3_note : ByteArray := prog_1_method_4_code
def yX3_note : MethodName := ⟨RX3, "note", "(II)I"⟩
abbrev cX3_street : ByteArray := prog_1_method_5_code
def yX3_street : MethodName := ⟨RX3, "street", "(II)I"⟩
abbrev cX3_permit : ByteArray := prog_1_method_6_code
def yX3_permit : MethodName := ⟨RX3, "permit", "(II)I"⟩
abbrev cX3_setDamp : ByteArray := prog_1_method_7_code
def yX3_setDamp : MethodName := ⟨RX3, "setDamp", "(II)I"⟩
abbrev cX3_play : ByteArray := prog_1_method_8_code
def yX3_play : MethodName := ⟨RX3, "play", "(II)I"⟩
abbrev cX3_tune : ByteArray := prog_1_method_9_code
def yX3_tune : MethodName := ⟨RX3, "tune", "(II)I"⟩
abbrev cX3_felt : ByteArray := prog_1_method_10_code
def yX3_felt : MethodName := ⟨RX3, "felt", "(I)I"⟩
abbrev cX3_chase : ByteArray := prog_1_method_11_code
def yX3_chase : MethodName := ⟨RX3, "chase", "()I"⟩
abbrev cX3_pipe : ByteArray := prog_1_method_12_code
def yX3_pipe : MethodName := ⟨RX3, "pipe", "(II)I"⟩
abbrev cX3_sound : ByteArray := prog_1_method_13_code
def yX3_sound : MethodName := ⟨RX3, "sound", "(I)I"⟩
abbrev cX3_told : ByteArray := prog_1_method_14_code
def yX3_told : MethodName := ⟨RX3, "told", "(II)I"⟩
abbrev cX3_count : ByteArray := prog_1_method_15_code
def yX3_count : MethodName := ⟨RX3, "count", "(I)I"⟩
abbrev cX3_rest : ByteArray := prog_1_method_16_code
def yX3_rest : MethodName := ⟨RX3, "rest", "(I)I"⟩
abbrev cX3_pays : ByteArray := prog_1_method_17_code
def yX3_pays : MethodName := ⟨RX3, "pays", "(II)I"⟩
abbrev cX3_best : ByteArray := prog_1_method_18_code
def yX3_best : MethodName := ⟨RX3, "best", "(I)I"⟩
abbrev cX3_worst : ByteArray := prog_1_method_19_code
def yX3_worst : MethodName := ⟨RX3, "worst", "(I)I"⟩
abbrev cX3_foresee : ByteArray := prog_1_method_20_code
def yX3_foresee : MethodName := ⟨RX3, "foresee", "(II)I"⟩
abbrev cX3_lasts : ByteArray := prog_1_method_21_code
def yX3_lasts : MethodName := ⟨RX3, "lasts", "(I)I"⟩
abbrev cX3_mean : ByteArray := prog_1_method_22_code
def yX3_mean : MethodName := ⟨RX3, "mean", "()D"⟩
abbrev cX3_digest : ByteArray := prog_1_method_23_code
def yX3_digest : MethodName := ⟨RX3, "digest", "()J"⟩
abbrev cX3_checkTune : ByteArray := prog_1_method_24_code
def yX3_checkTune : MethodName := ⟨RX3, "checkTune", "(I)V"⟩
abbrev cX3_checkStreet : ByteArray := prog_1_method_25_code
def yX3_checkStreet : MethodName := ⟨RX3, "checkStreet", "(I)V"⟩
abbrev cX3_checkPipe : ByteArray := prog_1_method_26_code
def yX3_checkPipe : MethodName := ⟨RX3, "checkPipe", "(I)V"⟩
abbrev cX3_checkPermits : ByteArray := prog_1_method_27_code
def yX3_checkPermits : MethodName := ⟨RX3, "checkPermits", "(I)V"⟩
abbrev cX3_checkNights : ByteArray := prog_1_method_28_code
def yX3_checkNights : MethodName := ⟨RX3, "checkNights", "(I)V"⟩
abbrev cX3_weekdayOf : ByteArray := prog_1_method_29_code
def yX3_weekdayOf : MethodName := ⟨RX3, "weekdayOf", "(I)I"⟩
abbrev cX3_payNow : ByteArray := prog_1_method_30_code
def yX3_payNow : MethodName := ⟨RX3, "payNow", "(II)I"⟩
abbrev cX3_payFine : ByteArray := prog_1_method_31_code
def yX3_payFine : MethodName := ⟨RX3, "payFine", "()I"⟩
abbrev cX3_passNights : ByteArray := prog_1_method_32_code
def yX3_passNights : MethodName := ⟨RX3, "passNights", "(LStreetOrgans$Pipes;I)I"⟩
abbrev cX3_countNow : ByteArray := prog_1_method_33_code
def yX3_countNow : MethodName := ⟨RX3, "countNow", "(I)I"⟩
abbrev cX3_mix : ByteArray := prog_1_method_34_code
def yX3_mix : MethodName := ⟨RX3, "mix", "(JI)J"⟩
abbrev cX3_mixTune : ByteArray := prog_1_method_35_code
def yX3_mixTune : MethodName := ⟨RX3, "mixTune", "(JLStreetOrgans$Tune;)J"⟩
abbrev cX3_mixStreet : ByteArray := prog_1_method_36_code
def yX3_mixStreet : MethodName := ⟨RX3, "mixStreet", "(JI)J"⟩
def RX4 : String := "StreetOrgansLaw$Sim"
def TX4 : u_T := fun k => match k with
  | 0 => ("StreetOrgansLaw$Sim", "day", "I", false)
  | 1 => ("StreetOrgansLaw$Sim", "coins", "I", false)
  | 2 => ("StreetOrgansLaw$Sim", "fines", "I", false)
  | 3 => ("StreetOrgansLaw$Sim", "worn", "[I", false)
  | 4 => ("StreetOrgansLaw$Sim", "off", "[I", false)
  | 5 => ("StreetOrgansLaw$Sim", "chirps", "[Z", false)
  | 6 => ("StreetOrgansLaw$Sim", "sang", "[Z", false)
  | 7 => ("StreetOrgansLaw$Sim", "tunes", "[[I", false)
  | 8 => ("StreetOrgansLaw$Sim", "streets", "[[I", false)
  | _ => ("StreetOrgansLaw$Sim", "damp", "[I", false)
def tyX4 : Nat → FieldType := fun k => match k with
  | 0 => .int
  | 1 => .int
  | 2 => .int
  | 3 => .array .int
  | 4 => .array .int
  | 5 => .array .boolean
  | 6 => .array .boolean
  | 7 => .array (.array .int)
  | 8 => .array (.array .int)
  | _ => .array .int
abbrev wsX40 : List Cond := u_ws RX4 TX4 10
theorem nmX4 : ∀ a, a < 10 → ∀ b, b < 10 → a ≠ b → (TX4 a).2.1 ≠ (TX4 b).2.1 := by decide +kernel
theorem tyX4_ok : ∀ k, k < 10 → parseFieldDescriptor (TX4 k).2.2.1 = some (tyX4 k) := by decide +kernel
abbrev cX4_init : ByteArray := prog_6_method_1_code
def yX4_init : MethodName := ⟨RX4, "<init>", "()V"⟩
abbrev cX4_more : ByteArray := prog_6_method_2_code
def yX4_more : MethodName := ⟨RX4, "more", "([[I[I)[[I"⟩
abbrev cX4_harm : ByteArray := prog_6_method_3_code
def yX4_harm : MethodName := ⟨RX4, "harm", "(I)I"⟩
abbrev cX4_sound : ByteArray := prog_6_method_4_code
def yX4_sound : MethodName := ⟨RX4, "sound", "(I)I"⟩
abbrev cX4_pays : ByteArray := prog_6_method_5_code
def yX4_pays : MethodName := ⟨RX4, "pays", "(II)I"⟩
abbrev cX4_sing : ByteArray := prog_6_method_6_code
def yX4_sing : MethodName := ⟨RX4, "sing", "(I)V"⟩
abbrev cX4_play : ByteArray := prog_6_method_7_code
def yX4_play : MethodName := ⟨RX4, "play", "(II)I"⟩
abbrev cX4_rest : ByteArray := prog_6_method_8_code
def yX4_rest : MethodName := ⟨RX4, "rest", "()I"⟩
abbrev cX4_crickets : ByteArray := prog_6_method_10_code
def yX4_crickets : MethodName := ⟨RX4, "crickets", "()I"⟩
abbrev cX4_sum : ByteArray := prog_6_method_11_code
def yX4_sum : MethodName := ⟨RX4, "sum", "([I)I"⟩
abbrev cX4_isSame : ByteArray := prog_6_method_12_code
def yX4_isSame : MethodName := ⟨RX4, "isSame", "(LStreetOrgans;)Z"⟩
def RX5 : String := "StreetOrgansModel$Pipes"
def TX5 : u_T := fun k => match k with
  | _ => ("", "", "", false)
def tyX5 : Nat → FieldType := fun k => match k with
  | _ => .int
abbrev wsX50 : List Cond := u_ws RX5 TX5 0
theorem nmX5 : ∀ a, a < 0 → ∀ b, b < 0 → a ≠ b → (TX5 a).2.1 ≠ (TX5 b).2.1 := by decide +kernel
theorem tyX5_ok : ∀ k, k < 0 → parseFieldDescriptor (TX5 k).2.2.1 = some (tyX5 k) := by decide +kernel
def RX6 : String := "StreetOrgansModel"
def TX6 : u_T := fun k => match k with
  | _ => ("", "", "", false)
def tyX6 : Nat → FieldType := fun k => match k with
  | _ => .int
abbrev wsX60 : List Cond := u_ws RX6 TX6 0
theorem nmX6 : ∀ a, a < 0 → ∀ b, b < 0 → a ≠ b → (TX6 a).2.1 ≠ (TX6 b).2.1 := by decide +kernel
theorem tyX6_ok : ∀ k, k < 0 → parseFieldDescriptor (TX6 k).2.2.1 = some (tyX6 k) := by decide +kernel
def RJx145de : String := "java/io/Serializable"
def TJx145de : u_T := fun k => match k with
  | _ => ("", "", "", false)
def tyJx145de : Nat → FieldType := fun k => match k with
  | _ => .int
theorem nmJx145de : ∀ a, a < 0 → ∀ b, b < 0 → a ≠ b → (TJx145de a).2.1 ≠ (TJx145de b).2.1 := by decide +kernel
theorem tyJx145de_ok : ∀ k, k < 0 → parseFieldDescriptor (TJx145de k).2.2.1 = some (tyJx145de k) := by decide +kernel
def RJx8e188 : String := "java/lang/Cloneable"
def TJx8e188 : u_T := fun k => match k with
  | _ => ("", "", "", false)
def tyJx8e188 : Nat → FieldType := fun k => match k with
  | _ => .int
theorem nmJx8e188 : ∀ a, a < 0 → ∀ b, b < 0 → a ≠ b → (TJx8e188 a).2.1 ≠ (TJx8e188 b).2.1 := by decide +kernel
theorem tyJx8e188_ok : ∀ k, k < 0 → parseFieldDescriptor (TJx8e188 k).2.2.1 = some (tyJx8e188 k) := by decide +kernel
def RJ9 : String := "java/lang/Math"
def TJ9 : u_T := fun k => match k with
  | _ => ("", "", "", false)
def tyJ9 : Nat → FieldType := fun k => match k with
  | _ => .int
abbrev wsJ90 : List Cond := u_ws RJ9 TJ9 0
theorem nmJ9 : ∀ a, a < 0 → ∀ b, b < 0 → a ≠ b → (TJ9 a).2.1 ≠ (TJ9 b).2.1 := by decide +kernel
theorem tyJ9_ok : ∀ k, k < 0 → parseFieldDescriptor (TJ9 k).2.2.1 = some (tyJ9 k) := by decide +kernel
abbrev cJ9_floorMod_7cf53 : ByteArray := prog_14_method_50_code
def yJ9_floorMod_7cf53 : MethodName := ⟨RJ9, "floorMod", "(II)I"⟩
abbrev cJ9_abs_0f7a4 : ByteArray := prog_14_method_59_code
def yJ9_abs_0f7a4 : MethodName := ⟨RJ9, "abs", "(I)I"⟩
abbrev cJ9_max_7cf53 : ByteArray := prog_14_method_65_code
def yJ9_max_7cf53 : MethodName := ⟨RJ9, "max", "(II)I"⟩
abbrev cJ9_min_7cf53 : ByteArray := prog_14_method_69_code
def yJ9_min_7cf53 : MethodName := ⟨RJ9, "min", "(II)I"⟩
def RJ0 : String := "java/lang/String"
def TJ0 : u_T := fun k => match k with
  | _ => ("", "", "", false)
def tyJ0 : Nat → FieldType := fun k => match k with
  | _ => .int
abbrev wsJ00 : List Cond := u_ws RJ0 TJ0 0
theorem nmJ0 : ∀ a, a < 0 → ∀ b, b < 0 → a ≠ b → (TJ0 a).2.1 ≠ (TJ0 b).2.1 := by decide +kernel
theorem tyJ0_ok : ∀ k, k < 0 → parseFieldDescriptor (TJ0 k).2.2.1 = some (tyJ0 k) := by decide +kernel
def RJ10 : String := "java/lang/System"
def TJ10 : u_T := fun k => match k with
  | _ => ("", "", "", false)
def tyJ10 : Nat → FieldType := fun k => match k with
  | _ => .int
abbrev wsJ100 : List Cond := u_ws RJ10 TJ10 0
theorem nmJ10 : ∀ a, a < 0 → ∀ b, b < 0 → a ≠ b → (TJ10 a).2.1 ≠ (TJ10 b).2.1 := by decide +kernel
theorem tyJ10_ok : ∀ k, k < 0 → parseFieldDescriptor (TJ10 k).2.2.1 = some (tyJ10 k) := by decide +kernel
def RJ7 : String := "java/util/Arrays"
def TJ7 : u_T := fun k => match k with
  | _ => ("", "", "", false)
def tyJ7 : Nat → FieldType := fun k => match k with
  | _ => .int
abbrev wsJ70 : List Cond := u_ws RJ7 TJ7 0
theorem nmJ7 : ∀ a, a < 0 → ∀ b, b < 0 → a ≠ b → (TJ7 a).2.1 ≠ (TJ7 b).2.1 := by decide +kernel
theorem tyJ7_ok : ∀ k, k < 0 → parseFieldDescriptor (TJ7 k).2.2.1 = some (tyJ7 k) := by decide +kernel
abbrev cJ7_copyOf_59c91 : ByteArray := prog_19_method_123_code
def yJ7_copyOf_59c91 : MethodName := ⟨RJ7, "copyOf", "([II)[I"⟩
def RL : String := "StreetOrgansLaw"
abbrev cL_below : ByteArray := method_2_code
def yL_below : MethodName := ⟨RL, "below", "(II)I"⟩
abbrev cL_cell : ByteArray := method_3_code
def yL_cell : MethodName := ⟨RL, "cell", "([II)I"⟩
abbrev cL_act : ByteArray := method_4_code
def yL_act : MethodName := ⟨RL, "act", "(LStreetOrgans;LStreetOrgansLaw$Sim;I)Z"⟩
abbrev cL_build : ByteArray := method_5_code
def yL_build : MethodName := ⟨RL, "build", "(LStreetOrgans;[I)LStreetOrgansLaw$Sim;"⟩
abbrev cL_law : ByteArray := code
def yL_law : MethodName := ⟨RL, "law", "([I)Z"⟩
abbrev vwCl : List vw_C := [(RX0, TX0, 4), (RX1, TX1, 4), (RX2, TX2, 3), (RX3, TX3, 10), (RX4, TX4, 10)]
/-- the words of the tables that are kept -/
def wAll : List Cond := lw_tbl.filter goodWord
theorem wAll_in : ∀ w ∈ wAll, w ∈ lw_tbl := fun w h => (List.mem_filter.mp h).1
theorem wAll_good : ∀ w ∈ wAll, goodWord w = true := fun w h => (List.mem_filter.mp h).2
theorem kAll {w : Cond} (i : Nat) (h : lw_tbl[i]? = some w) (hg : goodWord w = true) : w ∈ wAll := List.mem_filter.mpr ⟨List.mem_of_getElem? h, hg⟩
end
section
theorem dX0_init_0 : decode cX0_init 0 = .ok (.aload_n 0, 1) := by decide +kernel
theorem dX0_init_1 : decode cX0_init 1 = .ok (.invokespecial 3, 3) := by decide +kernel
theorem dX0_init_4 : decode cX0_init 4 = .ok (.aload_n 0, 1) := by decide +kernel
theorem dX0_init_5 : decode cX0_init 5 = .ok (.bipush 12, 2) := by decide +kernel
theorem dX0_init_7 : decode cX0_init 7 = .ok (.newarray .int, 2) := by decide +kernel
theorem dX0_init_9 : decode cX0_init 9 = .ok (.putfield 9, 3) := by decide +kernel
theorem dX0_init_12 : decode cX0_init 12 = .ok (.aload_n 0, 1) := by decide +kernel
theorem dX0_init_13 : decode cX0_init 13 = .ok (.bipush 12, 2) := by decide +kernel
theorem dX0_init_15 : decode cX0_init 15 = .ok (.newarray .int, 2) := by decide +kernel
theorem dX0_init_17 : decode cX0_init 17 = .ok (.putfield 15, 3) := by decide +kernel
theorem dX0_init_20 : decode cX0_init 20 = .ok (.aload_n 0, 1) := by decide +kernel
theorem dX0_init_21 : decode cX0_init 21 = .ok (.bipush 12, 2) := by decide +kernel
theorem dX0_init_23 : decode cX0_init 23 = .ok (.newarray .boolean, 2) := by decide +kernel
theorem dX0_init_25 : decode cX0_init 25 = .ok (.putfield 18, 3) := by decide +kernel
theorem dX0_init_28 : decode cX0_init 28 = .ok (.aload_n 0, 1) := by decide +kernel
theorem dX0_init_29 : decode cX0_init 29 = .ok (.bipush 12, 2) := by decide +kernel
theorem dX0_init_31 : decode cX0_init 31 = .ok (.newarray .boolean, 2) := by decide +kernel
theorem dX0_init_33 : decode cX0_init 33 = .ok (.putfield 22, 3) := by decide +kernel
theorem dX0_init_36 : decode cX0_init 36 = .ok (.return_, 1) := by decide +kernel
theorem dX0_become_0 : decode cX0_become 0 = .ok (.iconst 0, 1) := by decide +kernel
theorem dX0_become_1 : decode cX0_become 1 = .ok (.istore_n 2, 1) := by decide +kernel
theorem dX0_become_2 : decode cX0_become 2 = .ok (.iload_n 2, 1) := by decide +kernel
theorem dX0_become_3 : decode cX0_become 3 = .ok (.bipush 12, 2) := by decide +kernel
theorem dX0_become_5 : decode cX0_become 5 = .ok (.if_icmp .ge 57, 3) := by decide +kernel
theorem dX0_become_8 : decode cX0_become 8 = .ok (.aload_n 0, 1) := by decide +kernel
theorem dX0_become_9 : decode cX0_become 9 = .ok (.getfield 9, 3) := by decide +kernel
theorem dX0_become_12 : decode cX0_become 12 = .ok (.iload_n 2, 1) := by decide +kernel
theorem dX0_become_13 : decode cX0_become 13 = .ok (.aload_n 1, 1) := by decide +kernel
theorem dX0_become_14 : decode cX0_become 14 = .ok (.getfield 9, 3) := by decide +kernel
theorem dX0_become_17 : decode cX0_become 17 = .ok (.iload_n 2, 1) := by decide +kernel
theorem dX0_become_18 : decode cX0_become 18 = .ok (.iaload, 1) := by decide +kernel
theorem dX0_become_19 : decode cX0_become 19 = .ok (.iastore, 1) := by decide +kernel
theorem dX0_become_20 : decode cX0_become 20 = .ok (.aload_n 0, 1) := by decide +kernel
theorem dX0_become_21 : decode cX0_become 21 = .ok (.getfield 15, 3) := by decide +kernel
theorem dX0_become_24 : decode cX0_become 24 = .ok (.iload_n 2, 1) := by decide +kernel
theorem dX0_become_25 : decode cX0_become 25 = .ok (.aload_n 1, 1) := by decide +kernel
theorem dX0_become_26 : decode cX0_become 26 = .ok (.getfield 15, 3) := by decide +kernel
theorem dX0_become_29 : decode cX0_become 29 = .ok (.iload_n 2, 1) := by decide +kernel
theorem dX0_become_30 : decode cX0_become 30 = .ok (.iaload, 1) := by decide +kernel
theorem dX0_become_31 : decode cX0_become 31 = .ok (.iastore, 1) := by decide +kernel
theorem dX0_become_32 : decode cX0_become 32 = .ok (.aload_n 0, 1) := by decide +kernel
theorem dX0_become_33 : decode cX0_become 33 = .ok (.getfield 18, 3) := by decide +kernel
theorem dX0_become_36 : decode cX0_become 36 = .ok (.iload_n 2, 1) := by decide +kernel
theorem dX0_become_37 : decode cX0_become 37 = .ok (.aload_n 1, 1) := by decide +kernel
theorem dX0_become_38 : decode cX0_become 38 = .ok (.getfield 18, 3) := by decide +kernel
theorem dX0_become_41 : decode cX0_become 41 = .ok (.iload_n 2, 1) := by decide +kernel
theorem dX0_become_42 : decode cX0_become 42 = .ok (.baload, 1) := by decide +kernel
theorem dX0_become_43 : decode cX0_become 43 = .ok (.bastore, 1) := by decide +kernel
theorem dX0_become_44 : decode cX0_become 44 = .ok (.aload_n 0, 1) := by decide +kernel
theorem dX0_become_45 : decode cX0_become 45 = .ok (.getfield 22, 3) := by decide +kernel
theorem dX0_become_48 : decode cX0_become 48 = .ok (.iload_n 2, 1) := by decide +kernel
theorem dX0_become_49 : decode cX0_become 49 = .ok (.aload_n 1, 1) := by decide +kernel
theorem dX0_become_50 : decode cX0_become 50 = .ok (.getfield 22, 3) := by decide +kernel
theorem dX0_become_53 : decode cX0_become 53 = .ok (.iload_n 2, 1) := by decide +kernel
theorem dX0_become_54 : decode cX0_become 54 = .ok (.baload, 1) := by decide +kernel
theorem dX0_become_55 : decode cX0_become 55 = .ok (.bastore, 1) := by decide +kernel
theorem dX0_become_56 : decode cX0_become 56 = .ok (.iinc 2 1, 3) := by decide +kernel
theorem dX0_become_59 : decode cX0_become 59 = .ok (.goto (-57), 3) := by decide +kernel
theorem dX0_become_62 : decode cX0_become 62 = .ok (.return_, 1) := by decide +kernel
theorem dX0_harmOf_0 : decode cX0_harmOf 0 = .ok (.aload_n 0, 1) := by decide +kernel
theorem dX0_harmOf_1 : decode cX0_harmOf 1 = .ok (.getfield 18, 3) := by decide +kernel
theorem dX0_harmOf_4 : decode cX0_harmOf 4 = .ok (.iload_n 1, 1) := by decide +kernel
theorem dX0_harmOf_5 : decode cX0_harmOf 5 = .ok (.baload, 1) := by decide +kernel
theorem dX0_harmOf_6 : decode cX0_harmOf 6 = .ok (.ifCond .eq 6, 3) := by decide +kernel
theorem dX0_harmOf_9 : decode cX0_harmOf 9 = .ok (.bipush 60, 2) := by decide +kernel
theorem dX0_harmOf_11 : decode cX0_harmOf 11 = .ok (.ireturn, 1) := by decide +kernel
theorem dX0_harmOf_12 : decode cX0_harmOf 12 = .ok (.bipush 60, 2) := by decide +kernel
theorem dX0_harmOf_14 : decode cX0_harmOf 14 = .ok (.aload_n 0, 1) := by decide +kernel
theorem dX0_harmOf_15 : decode cX0_harmOf 15 = .ok (.getfield 15, 3) := by decide +kernel
theorem dX0_harmOf_18 : decode cX0_harmOf 18 = .ok (.iload_n 1, 1) := by decide +kernel
theorem dX0_harmOf_19 : decode cX0_harmOf 19 = .ok (.iaload, 1) := by decide +kernel
theorem dX0_harmOf_20 : decode cX0_harmOf 20 = .ok (.invokestatic 25, 3) := by decide +kernel
theorem dX0_harmOf_23 : decode cX0_harmOf 23 = .ok (.iconst 2, 1) := by decide +kernel
theorem dX0_harmOf_24 : decode cX0_harmOf 24 = .ok (.aload_n 0, 1) := by decide +kernel
theorem dX0_harmOf_25 : decode cX0_harmOf 25 = .ok (.getfield 9, 3) := by decide +kernel
theorem dX0_harmOf_28 : decode cX0_harmOf 28 = .ok (.iload_n 1, 1) := by decide +kernel
theorem dX0_harmOf_29 : decode cX0_harmOf 29 = .ok (.iaload, 1) := by decide +kernel
theorem dX0_harmOf_30 : decode cX0_harmOf 30 = .ok (.imul, 1) := by decide +kernel
theorem dX0_harmOf_31 : decode cX0_harmOf 31 = .ok (.iadd, 1) := by decide +kernel
theorem dX0_harmOf_32 : decode cX0_harmOf 32 = .ok (.invokestatic 31, 3) := by decide +kernel
theorem dX0_harmOf_35 : decode cX0_harmOf 35 = .ok (.ireturn, 1) := by decide +kernel
theorem dX0_wear_0 : decode cX0_wear 0 = .ok (.aload_n 0, 1) := by decide +kernel
theorem dX0_wear_1 : decode cX0_wear 1 = .ok (.getfield 9, 3) := by decide +kernel
theorem dX0_wear_4 : decode cX0_wear 4 = .ok (.iload_n 1, 1) := by decide +kernel
theorem dX0_wear_5 : decode cX0_wear 5 = .ok (.bipush 30, 2) := by decide +kernel
theorem dX0_wear_7 : decode cX0_wear 7 = .ok (.aload_n 0, 1) := by decide +kernel
theorem dX0_wear_8 : decode cX0_wear 8 = .ok (.getfield 9, 3) := by decide +kernel
theorem dX0_wear_11 : decode cX0_wear 11 = .ok (.iload_n 1, 1) := by decide +kernel
theorem dX0_wear_12 : decode cX0_wear 12 = .ok (.iaload, 1) := by decide +kernel
theorem dX0_wear_13 : decode cX0_wear 13 = .ok (.iload_n 2, 1) := by decide +kernel
theorem dX0_wear_14 : decode cX0_wear 14 = .ok (.iadd, 1) := by decide +kernel
theorem dX0_wear_15 : decode cX0_wear 15 = .ok (.invokestatic 31, 3) := by decide +kernel
theorem dX0_wear_18 : decode cX0_wear 18 = .ok (.iastore, 1) := by decide +kernel
theorem dX0_wear_19 : decode cX0_wear 19 = .ok (.aload_n 0, 1) := by decide +kernel
theorem dX0_wear_20 : decode cX0_wear 20 = .ok (.getfield 22, 3) := by decide +kernel
theorem dX0_wear_23 : decode cX0_wear 23 = .ok (.iload_n 1, 1) := by decide +kernel
theorem dX0_wear_24 : decode cX0_wear 24 = .ok (.iconst 1, 1) := by decide +kernel
theorem dX0_wear_25 : decode cX0_wear 25 = .ok (.bastore, 1) := by decide +kernel
theorem dX0_wear_26 : decode cX0_wear 26 = .ok (.return_, 1) := by decide +kernel
theorem dX0_shift_0 : decode cX0_shift 0 = .ok (.aload_n 0, 1) := by decide +kernel
theorem dX0_shift_1 : decode cX0_shift 1 = .ok (.getfield 15, 3) := by decide +kernel
theorem dX0_shift_4 : decode cX0_shift 4 = .ok (.iload_n 1, 1) := by decide +kernel
theorem dX0_shift_5 : decode cX0_shift 5 = .ok (.bipush (-60), 2) := by decide +kernel
theorem dX0_shift_7 : decode cX0_shift 7 = .ok (.bipush 60, 2) := by decide +kernel
theorem dX0_shift_9 : decode cX0_shift 9 = .ok (.aload_n 0, 1) := by decide +kernel
theorem dX0_shift_10 : decode cX0_shift 10 = .ok (.getfield 15, 3) := by decide +kernel
theorem dX0_shift_13 : decode cX0_shift 13 = .ok (.iload_n 1, 1) := by decide +kernel
theorem dX0_shift_14 : decode cX0_shift 14 = .ok (.iaload, 1) := by decide +kernel
theorem dX0_shift_15 : decode cX0_shift 15 = .ok (.iload_n 2, 1) := by decide +kernel
theorem dX0_shift_16 : decode cX0_shift 16 = .ok (.iadd, 1) := by decide +kernel
theorem dX0_shift_17 : decode cX0_shift 17 = .ok (.invokestatic 31, 3) := by decide +kernel
theorem dX0_shift_20 : decode cX0_shift 20 = .ok (.invokestatic 35, 3) := by decide +kernel
theorem dX0_shift_23 : decode cX0_shift 23 = .ok (.iastore, 1) := by decide +kernel
theorem dX0_shift_24 : decode cX0_shift 24 = .ok (.return_, 1) := by decide +kernel
theorem dX0_passNight_0 : decode cX0_passNight 0 = .ok (.iconst 0, 1) := by decide +kernel
theorem dX0_passNight_1 : decode cX0_passNight 1 = .ok (.istore_n 2, 1) := by decide +kernel
theorem dX0_passNight_2 : decode cX0_passNight 2 = .ok (.iconst 0, 1) := by decide +kernel
theorem dX0_passNight_3 : decode cX0_passNight 3 = .ok (.istore_n 3, 1) := by decide +kernel
theorem dX0_passNight_4 : decode cX0_passNight 4 = .ok (.iload_n 3, 1) := by decide +kernel
theorem dX0_passNight_5 : decode cX0_passNight 5 = .ok (.bipush 12, 2) := by decide +kernel
theorem dX0_passNight_7 : decode cX0_passNight 7 = .ok (.if_icmp .ge 72, 3) := by decide +kernel
theorem dX0_passNight_10 : decode cX0_passNight 10 = .ok (.aload_n 0, 1) := by decide +kernel
theorem dX0_passNight_11 : decode cX0_passNight 11 = .ok (.getfield 9, 3) := by decide +kernel
theorem dX0_passNight_14 : decode cX0_passNight 14 = .ok (.iload_n 3, 1) := by decide +kernel
theorem dX0_passNight_15 : decode cX0_passNight 15 = .ok (.iaload, 1) := by decide +kernel
theorem dX0_passNight_16 : decode cX0_passNight 16 = .ok (.bipush 10, 2) := by decide +kernel
theorem dX0_passNight_18 : decode cX0_passNight 18 = .ok (.if_icmp .lt 31, 3) := by decide +kernel
theorem dX0_passNight_21 : decode cX0_passNight 21 = .ok (.aload_n 0, 1) := by decide +kernel
theorem dX0_passNight_22 : decode cX0_passNight 22 = .ok (.getfield 22, 3) := by decide +kernel
theorem dX0_passNight_25 : decode cX0_passNight 25 = .ok (.iload_n 3, 1) := by decide +kernel
theorem dX0_passNight_26 : decode cX0_passNight 26 = .ok (.baload, 1) := by decide +kernel
theorem dX0_passNight_27 : decode cX0_passNight 27 = .ok (.ifCond .ne 22, 3) := by decide +kernel
theorem dX0_passNight_30 : decode cX0_passNight 30 = .ok (.aload_n 0, 1) := by decide +kernel
theorem dX0_passNight_31 : decode cX0_passNight 31 = .ok (.getfield 18, 3) := by decide +kernel
theorem dX0_passNight_34 : decode cX0_passNight 34 = .ok (.iload_n 3, 1) := by decide +kernel
theorem dX0_passNight_35 : decode cX0_passNight 35 = .ok (.baload, 1) := by decide +kernel
theorem dX0_passNight_36 : decode cX0_passNight 36 = .ok (.ifCond .ne 13, 3) := by decide +kernel
theorem dX0_passNight_39 : decode cX0_passNight 39 = .ok (.aload_n 0, 1) := by decide +kernel
theorem dX0_passNight_40 : decode cX0_passNight 40 = .ok (.getfield 18, 3) := by decide +kernel
theorem dX0_passNight_43 : decode cX0_passNight 43 = .ok (.iload_n 3, 1) := by decide +kernel
theorem dX0_passNight_44 : decode cX0_passNight 44 = .ok (.iconst 1, 1) := by decide +kernel
theorem dX0_passNight_45 : decode cX0_passNight 45 = .ok (.bastore, 1) := by decide +kernel
theorem dX0_passNight_46 : decode cX0_passNight 46 = .ok (.iinc 2 1, 3) := by decide +kernel
theorem dX0_passNight_49 : decode cX0_passNight 49 = .ok (.aload_n 0, 1) := by decide +kernel
theorem dX0_passNight_50 : decode cX0_passNight 50 = .ok (.iload_n 3, 1) := by decide +kernel
theorem dX0_passNight_51 : decode cX0_passNight 51 = .ok (.iload_n 3, 1) := by decide +kernel
theorem dX0_passNight_52 : decode cX0_passNight 52 = .ok (.iconst 2, 1) := by decide +kernel
theorem dX0_passNight_53 : decode cX0_passNight 53 = .ok (.irem, 1) := by decide +kernel
theorem dX0_passNight_54 : decode cX0_passNight 54 = .ok (.ifCond .ne 7, 3) := by decide +kernel
theorem dX0_passNight_57 : decode cX0_passNight 57 = .ok (.iload_n 1, 1) := by decide +kernel
theorem dX0_passNight_58 : decode cX0_passNight 58 = .ok (.goto 5, 3) := by decide +kernel
theorem dX0_passNight_61 : decode cX0_passNight 61 = .ok (.iload_n 1, 1) := by decide +kernel
theorem dX0_passNight_62 : decode cX0_passNight 62 = .ok (.ineg, 1) := by decide +kernel
theorem dX0_passNight_63 : decode cX0_passNight 63 = .ok (.invokevirtual 38, 3) := by decide +kernel
theorem dX0_passNight_66 : decode cX0_passNight 66 = .ok (.aload_n 0, 1) := by decide +kernel
theorem dX0_passNight_67 : decode cX0_passNight 67 = .ok (.getfield 22, 3) := by decide +kernel
theorem dX0_passNight_70 : decode cX0_passNight 70 = .ok (.iload_n 3, 1) := by decide +kernel
theorem dX0_passNight_71 : decode cX0_passNight 71 = .ok (.iconst 0, 1) := by decide +kernel
theorem dX0_passNight_72 : decode cX0_passNight 72 = .ok (.bastore, 1) := by decide +kernel
theorem dX0_passNight_73 : decode cX0_passNight 73 = .ok (.iinc 3 1, 3) := by decide +kernel
theorem dX0_passNight_76 : decode cX0_passNight 76 = .ok (.goto (-72), 3) := by decide +kernel
theorem dX0_passNight_79 : decode cX0_passNight 79 = .ok (.iload_n 2, 1) := by decide +kernel
theorem dX0_passNight_80 : decode cX0_passNight 80 = .ok (.ireturn, 1) := by decide +kernel
theorem dX0_clearCrickets_0 : decode cX0_clearCrickets 0 = .ok (.iconst 0, 1) := by decide +kernel
theorem dX0_clearCrickets_1 : decode cX0_clearCrickets 1 = .ok (.istore_n 1, 1) := by decide +kernel
theorem dX0_clearCrickets_2 : decode cX0_clearCrickets 2 = .ok (.iload_n 1, 1) := by decide +kernel
theorem dX0_clearCrickets_3 : decode cX0_clearCrickets 3 = .ok (.bipush 12, 2) := by decide +kernel
theorem dX0_clearCrickets_5 : decode cX0_clearCrickets 5 = .ok (.if_icmp .ge 16, 3) := by decide +kernel
theorem dX0_clearCrickets_8 : decode cX0_clearCrickets 8 = .ok (.aload_n 0, 1) := by decide +kernel
theorem dX0_clearCrickets_9 : decode cX0_clearCrickets 9 = .ok (.getfield 18, 3) := by decide +kernel
theorem dX0_clearCrickets_12 : decode cX0_clearCrickets 12 = .ok (.iload_n 1, 1) := by decide +kernel
theorem dX0_clearCrickets_13 : decode cX0_clearCrickets 13 = .ok (.iconst 0, 1) := by decide +kernel
theorem dX0_clearCrickets_14 : decode cX0_clearCrickets 14 = .ok (.bastore, 1) := by decide +kernel
theorem dX0_clearCrickets_15 : decode cX0_clearCrickets 15 = .ok (.iinc 1 1, 3) := by decide +kernel
theorem dX0_clearCrickets_18 : decode cX0_clearCrickets 18 = .ok (.goto (-16), 3) := by decide +kernel
theorem dX0_clearCrickets_21 : decode cX0_clearCrickets 21 = .ok (.return_, 1) := by decide +kernel
theorem dX0_cricketCount_0 : decode cX0_cricketCount 0 = .ok (.iconst 0, 1) := by decide +kernel
theorem dX0_cricketCount_1 : decode cX0_cricketCount 1 = .ok (.istore_n 1, 1) := by decide +kernel
theorem dX0_cricketCount_2 : decode cX0_cricketCount 2 = .ok (.iconst 0, 1) := by decide +kernel
theorem dX0_cricketCount_3 : decode cX0_cricketCount 3 = .ok (.istore_n 2, 1) := by decide +kernel
theorem dX0_cricketCount_4 : decode cX0_cricketCount 4 = .ok (.iload_n 2, 1) := by decide +kernel
theorem dX0_cricketCount_5 : decode cX0_cricketCount 5 = .ok (.bipush 12, 2) := by decide +kernel
theorem dX0_cricketCount_7 : decode cX0_cricketCount 7 = .ok (.if_icmp .ge 26, 3) := by decide +kernel
theorem dX0_cricketCount_10 : decode cX0_cricketCount 10 = .ok (.iload_n 1, 1) := by decide +kernel
theorem dX0_cricketCount_11 : decode cX0_cricketCount 11 = .ok (.aload_n 0, 1) := by decide +kernel
theorem dX0_cricketCount_12 : decode cX0_cricketCount 12 = .ok (.getfield 18, 3) := by decide +kernel
theorem dX0_cricketCount_15 : decode cX0_cricketCount 15 = .ok (.iload_n 2, 1) := by decide +kernel
theorem dX0_cricketCount_16 : decode cX0_cricketCount 16 = .ok (.baload, 1) := by decide +kernel
theorem dX0_cricketCount_17 : decode cX0_cricketCount 17 = .ok (.ifCond .eq 7, 3) := by decide +kernel
theorem dX0_cricketCount_20 : decode cX0_cricketCount 20 = .ok (.iconst 1, 1) := by decide +kernel
theorem dX0_cricketCount_21 : decode cX0_cricketCount 21 = .ok (.goto 4, 3) := by decide +kernel
theorem dX0_cricketCount_24 : decode cX0_cricketCount 24 = .ok (.iconst 0, 1) := by decide +kernel
theorem dX0_cricketCount_25 : decode cX0_cricketCount 25 = .ok (.iadd, 1) := by decide +kernel
theorem dX0_cricketCount_26 : decode cX0_cricketCount 26 = .ok (.istore_n 1, 1) := by decide +kernel
theorem dX0_cricketCount_27 : decode cX0_cricketCount 27 = .ok (.iinc 2 1, 3) := by decide +kernel
theorem dX0_cricketCount_30 : decode cX0_cricketCount 30 = .ok (.goto (-26), 3) := by decide +kernel
theorem dX0_cricketCount_33 : decode cX0_cricketCount 33 = .ok (.iload_n 1, 1) := by decide +kernel
theorem dX0_cricketCount_34 : decode cX0_cricketCount 34 = .ok (.ireturn, 1) := by decide +kernel
theorem dX0_wornInAll_0 : decode cX0_wornInAll 0 = .ok (.iconst 0, 1) := by decide +kernel
theorem dX0_wornInAll_1 : decode cX0_wornInAll 1 = .ok (.istore_n 1, 1) := by decide +kernel
theorem dX0_wornInAll_2 : decode cX0_wornInAll 2 = .ok (.iconst 0, 1) := by decide +kernel
theorem dX0_wornInAll_3 : decode cX0_wornInAll 3 = .ok (.istore_n 2, 1) := by decide +kernel
theorem dX0_wornInAll_4 : decode cX0_wornInAll 4 = .ok (.iload_n 2, 1) := by decide +kernel
theorem dX0_wornInAll_5 : decode cX0_wornInAll 5 = .ok (.bipush 12, 2) := by decide +kernel
theorem dX0_wornInAll_7 : decode cX0_wornInAll 7 = .ok (.if_icmp .ge 18, 3) := by decide +kernel
theorem dX0_wornInAll_10 : decode cX0_wornInAll 10 = .ok (.iload_n 1, 1) := by decide +kernel
theorem dX0_wornInAll_11 : decode cX0_wornInAll 11 = .ok (.aload_n 0, 1) := by decide +kernel
theorem dX0_wornInAll_12 : decode cX0_wornInAll 12 = .ok (.getfield 9, 3) := by decide +kernel
theorem dX0_wornInAll_15 : decode cX0_wornInAll 15 = .ok (.iload_n 2, 1) := by decide +kernel
theorem dX0_wornInAll_16 : decode cX0_wornInAll 16 = .ok (.iaload, 1) := by decide +kernel
theorem dX0_wornInAll_17 : decode cX0_wornInAll 17 = .ok (.iadd, 1) := by decide +kernel
theorem dX0_wornInAll_18 : decode cX0_wornInAll 18 = .ok (.istore_n 1, 1) := by decide +kernel
theorem dX0_wornInAll_19 : decode cX0_wornInAll 19 = .ok (.iinc 2 1, 3) := by decide +kernel
theorem dX0_wornInAll_22 : decode cX0_wornInAll 22 = .ok (.goto (-18), 3) := by decide +kernel
theorem dX0_wornInAll_25 : decode cX0_wornInAll 25 = .ok (.iload_n 1, 1) := by decide +kernel
theorem dX0_wornInAll_26 : decode cX0_wornInAll 26 = .ok (.ireturn, 1) := by decide +kernel
theorem dX0_offInAll_0 : decode cX0_offInAll 0 = .ok (.iconst 0, 1) := by decide +kernel
theorem dX0_offInAll_1 : decode cX0_offInAll 1 = .ok (.istore_n 1, 1) := by decide +kernel
theorem dX0_offInAll_2 : decode cX0_offInAll 2 = .ok (.iconst 0, 1) := by decide +kernel
theorem dX0_offInAll_3 : decode cX0_offInAll 3 = .ok (.istore_n 2, 1) := by decide +kernel
theorem dX0_offInAll_4 : decode cX0_offInAll 4 = .ok (.iload_n 2, 1) := by decide +kernel
theorem dX0_offInAll_5 : decode cX0_offInAll 5 = .ok (.bipush 12, 2) := by decide +kernel
theorem dX0_offInAll_7 : decode cX0_offInAll 7 = .ok (.if_icmp .ge 21, 3) := by decide +kernel
theorem dX0_offInAll_10 : decode cX0_offInAll 10 = .ok (.iload_n 1, 1) := by decide +kernel
theorem dX0_offInAll_11 : decode cX0_offInAll 11 = .ok (.aload_n 0, 1) := by decide +kernel
theorem dX0_offInAll_12 : decode cX0_offInAll 12 = .ok (.getfield 15, 3) := by decide +kernel
theorem dX0_offInAll_15 : decode cX0_offInAll 15 = .ok (.iload_n 2, 1) := by decide +kernel
theorem dX0_offInAll_16 : decode cX0_offInAll 16 = .ok (.iaload, 1) := by decide +kernel
theorem dX0_offInAll_17 : decode cX0_offInAll 17 = .ok (.invokestatic 25, 3) := by decide +kernel
theorem dX0_offInAll_20 : decode cX0_offInAll 20 = .ok (.iadd, 1) := by decide +kernel
theorem dX0_offInAll_21 : decode cX0_offInAll 21 = .ok (.istore_n 1, 1) := by decide +kernel
theorem dX0_offInAll_22 : decode cX0_offInAll 22 = .ok (.iinc 2 1, 3) := by decide +kernel
theorem dX0_offInAll_25 : decode cX0_offInAll 25 = .ok (.goto (-21), 3) := by decide +kernel
theorem dX0_offInAll_28 : decode cX0_offInAll 28 = .ok (.iload_n 1, 1) := by decide +kernel
theorem dX0_offInAll_29 : decode cX0_offInAll 29 = .ok (.ireturn, 1) := by decide +kernel
theorem dX0_sumUp_0 : decode cX0_sumUp 0 = .ok (.iload_n 1, 1) := by decide +kernel
theorem dX0_sumUp_1 : decode cX0_sumUp 1 = .ok (.lookupswitch 37 #[(5, 27), (6, 32)], 27) := by decide +kernel
theorem dX0_sumUp_28 : decode cX0_sumUp 28 = .ok (.aload_n 0, 1) := by decide +kernel
theorem dX0_sumUp_29 : decode cX0_sumUp 29 = .ok (.invokevirtual 42, 3) := by decide +kernel
theorem dX0_sumUp_32 : decode cX0_sumUp 32 = .ok (.ireturn, 1) := by decide +kernel
theorem dX0_sumUp_33 : decode cX0_sumUp 33 = .ok (.aload_n 0, 1) := by decide +kernel
theorem dX0_sumUp_34 : decode cX0_sumUp 34 = .ok (.invokevirtual 46, 3) := by decide +kernel
theorem dX0_sumUp_37 : decode cX0_sumUp 37 = .ok (.ireturn, 1) := by decide +kernel
theorem dX0_sumUp_38 : decode cX0_sumUp 38 = .ok (.aload_n 0, 1) := by decide +kernel
theorem dX0_sumUp_39 : decode cX0_sumUp 39 = .ok (.invokevirtual 49, 3) := by decide +kernel
theorem dX0_sumUp_42 : decode cX0_sumUp 42 = .ok (.ireturn, 1) := by decide +kernel
theorem dX0_tell_0 : decode cX0_tell 0 = .ok (.iload_n 2, 1) := by decide +kernel
theorem dX0_tell_1 : decode cX0_tell 1 = .ok (.tableswitch 66 0 3 #[31, 38, 45, 60], 31) := by decide +kernel
theorem dX0_tell_32 : decode cX0_tell 32 = .ok (.aload_n 0, 1) := by decide +kernel
theorem dX0_tell_33 : decode cX0_tell 33 = .ok (.getfield 9, 3) := by decide +kernel
theorem dX0_tell_36 : decode cX0_tell 36 = .ok (.iload_n 1, 1) := by decide +kernel
theorem dX0_tell_37 : decode cX0_tell 37 = .ok (.iaload, 1) := by decide +kernel
theorem dX0_tell_38 : decode cX0_tell 38 = .ok (.ireturn, 1) := by decide +kernel
theorem dX0_tell_39 : decode cX0_tell 39 = .ok (.aload_n 0, 1) := by decide +kernel
theorem dX0_tell_40 : decode cX0_tell 40 = .ok (.getfield 15, 3) := by decide +kernel
theorem dX0_tell_43 : decode cX0_tell 43 = .ok (.iload_n 1, 1) := by decide +kernel
theorem dX0_tell_44 : decode cX0_tell 44 = .ok (.iaload, 1) := by decide +kernel
theorem dX0_tell_45 : decode cX0_tell 45 = .ok (.ireturn, 1) := by decide +kernel
theorem dX0_tell_46 : decode cX0_tell 46 = .ok (.aload_n 0, 1) := by decide +kernel
theorem dX0_tell_47 : decode cX0_tell 47 = .ok (.getfield 18, 3) := by decide +kernel
theorem dX0_tell_50 : decode cX0_tell 50 = .ok (.iload_n 1, 1) := by decide +kernel
theorem dX0_tell_51 : decode cX0_tell 51 = .ok (.baload, 1) := by decide +kernel
theorem dX0_tell_52 : decode cX0_tell 52 = .ok (.ifCond .eq 7, 3) := by decide +kernel
theorem dX0_tell_55 : decode cX0_tell 55 = .ok (.iconst 1, 1) := by decide +kernel
theorem dX0_tell_56 : decode cX0_tell 56 = .ok (.goto 4, 3) := by decide +kernel
theorem dX0_tell_59 : decode cX0_tell 59 = .ok (.iconst 0, 1) := by decide +kernel
theorem dX0_tell_60 : decode cX0_tell 60 = .ok (.ireturn, 1) := by decide +kernel
theorem dX0_tell_61 : decode cX0_tell 61 = .ok (.aload_n 0, 1) := by decide +kernel
theorem dX0_tell_62 : decode cX0_tell 62 = .ok (.iload_n 1, 1) := by decide +kernel
theorem dX0_tell_63 : decode cX0_tell 63 = .ok (.invokevirtual 52, 3) := by decide +kernel
theorem dX0_tell_66 : decode cX0_tell 66 = .ok (.ireturn, 1) := by decide +kernel
theorem dX0_tell_67 : decode cX0_tell 67 = .ok (.aload_n 0, 1) := by decide +kernel
theorem dX0_tell_68 : decode cX0_tell 68 = .ok (.getfield 22, 3) := by decide +kernel
theorem dX0_tell_71 : decode cX0_tell 71 = .ok (.iload_n 1, 1) := by decide +kernel
theorem dX0_tell_72 : decode cX0_tell 72 = .ok (.baload, 1) := by decide +kernel
theorem dX0_tell_73 : decode cX0_tell 73 = .ok (.ifCond .eq 7, 3) := by decide +kernel
theorem dX0_tell_76 : decode cX0_tell 76 = .ok (.iconst 1, 1) := by decide +kernel
theorem dX0_tell_77 : decode cX0_tell 77 = .ok (.goto 4, 3) := by decide +kernel
theorem dX0_tell_80 : decode cX0_tell 80 = .ok (.iconst 0, 1) := by decide +kernel
theorem dX0_tell_81 : decode cX0_tell 81 = .ok (.ireturn, 1) := by decide +kernel
theorem dX1_init_0 : decode cX1_init 0 = .ok (.aload_n 0, 1) := by decide +kernel
theorem dX1_init_1 : decode cX1_init 1 = .ok (.invokespecial 3, 3) := by decide +kernel
theorem dX1_init_4 : decode cX1_init 4 = .ok (.aload_n 0, 1) := by decide +kernel
theorem dX1_init_5 : decode cX1_init 5 = .ok (.bipush 6, 2) := by decide +kernel
theorem dX1_init_7 : decode cX1_init 7 = .ok (.newarray .int, 2) := by decide +kernel
theorem dX1_init_9 : decode cX1_init 9 = .ok (.putfield 9, 3) := by decide +kernel
theorem dX1_init_12 : decode cX1_init 12 = .ok (.return_, 1) := by decide +kernel
theorem dX1_isPermittedOn_0 : decode cX1_isPermittedOn 0 = .ok (.aload_n 0, 1) := by decide +kernel
theorem dX1_isPermittedOn_1 : decode cX1_isPermittedOn 1 = .ok (.getfield 15, 3) := by decide +kernel
theorem dX1_isPermittedOn_4 : decode cX1_isPermittedOn 4 = .ok (.iload_n 1, 1) := by decide +kernel
theorem dX1_isPermittedOn_5 : decode cX1_isPermittedOn 5 = .ok (.ishr, 1) := by decide +kernel
theorem dX1_isPermittedOn_6 : decode cX1_isPermittedOn 6 = .ok (.iconst 1, 1) := by decide +kernel
theorem dX1_isPermittedOn_7 : decode cX1_isPermittedOn 7 = .ok (.iand, 1) := by decide +kernel
theorem dX1_isPermittedOn_8 : decode cX1_isPermittedOn 8 = .ok (.iconst 1, 1) := by decide +kernel
theorem dX1_isPermittedOn_9 : decode cX1_isPermittedOn 9 = .ok (.if_icmp .ne 7, 3) := by decide +kernel
theorem dX1_isPermittedOn_12 : decode cX1_isPermittedOn 12 = .ok (.iconst 1, 1) := by decide +kernel
theorem dX1_isPermittedOn_13 : decode cX1_isPermittedOn 13 = .ok (.goto 4, 3) := by decide +kernel
theorem dX1_isPermittedOn_16 : decode cX1_isPermittedOn 16 = .ok (.iconst 0, 1) := by decide +kernel
theorem dX1_isPermittedOn_17 : decode cX1_isPermittedOn 17 = .ok (.ireturn, 1) := by decide +kernel
theorem dX1_payFor_0 : decode cX1_payFor 0 = .ok (.aload_n 0, 1) := by decide +kernel
theorem dX1_payFor_1 : decode cX1_payFor 1 = .ok (.getfield 19, 3) := by decide +kernel
theorem dX1_payFor_4 : decode cX1_payFor 4 = .ok (.iload_n 2, 1) := by decide +kernel
theorem dX1_payFor_5 : decode cX1_payFor 5 = .ok (.imul, 1) := by decide +kernel
theorem dX1_payFor_6 : decode cX1_payFor 6 = .ok (.bipush 60, 2) := by decide +kernel
theorem dX1_payFor_8 : decode cX1_payFor 8 = .ok (.idiv, 1) := by decide +kernel
theorem dX1_payFor_9 : decode cX1_payFor 9 = .ok (.istore_n 3, 1) := by decide +kernel
theorem dX1_payFor_10 : decode cX1_payFor 10 = .ok (.iconst 0, 1) := by decide +kernel
theorem dX1_payFor_11 : decode cX1_payFor 11 = .ok (.istore 4, 2) := by decide +kernel
theorem dX1_payFor_13 : decode cX1_payFor 13 = .ok (.iload 4, 2) := by decide +kernel
theorem dX1_payFor_15 : decode cX1_payFor 15 = .ok (.aload_n 0, 1) := by decide +kernel
theorem dX1_payFor_16 : decode cX1_payFor 16 = .ok (.getfield 9, 3) := by decide +kernel
theorem dX1_payFor_19 : decode cX1_payFor 19 = .ok (.iload_n 1, 1) := by decide +kernel
theorem dX1_payFor_20 : decode cX1_payFor 20 = .ok (.iaload, 1) := by decide +kernel
theorem dX1_payFor_21 : decode cX1_payFor 21 = .ok (.if_icmp .ge 17, 3) := by decide +kernel
theorem dX1_payFor_24 : decode cX1_payFor 24 = .ok (.iload_n 3, 1) := by decide +kernel
theorem dX1_payFor_25 : decode cX1_payFor 25 = .ok (.ifCond .le 13, 3) := by decide +kernel
theorem dX1_payFor_28 : decode cX1_payFor 28 = .ok (.iload_n 3, 1) := by decide +kernel
theorem dX1_payFor_29 : decode cX1_payFor 29 = .ok (.iconst 2, 1) := by decide +kernel
theorem dX1_payFor_30 : decode cX1_payFor 30 = .ok (.idiv, 1) := by decide +kernel
theorem dX1_payFor_31 : decode cX1_payFor 31 = .ok (.istore_n 3, 1) := by decide +kernel
theorem dX1_payFor_32 : decode cX1_payFor 32 = .ok (.iinc 4 1, 3) := by decide +kernel
theorem dX1_payFor_35 : decode cX1_payFor 35 = .ok (.goto (-22), 3) := by decide +kernel
theorem dX1_payFor_38 : decode cX1_payFor 38 = .ok (.iload_n 3, 1) := by decide +kernel
theorem dX1_payFor_39 : decode cX1_payFor 39 = .ok (.ireturn, 1) := by decide +kernel
theorem dX1_forgetDay_0 : decode cX1_forgetDay 0 = .ok (.iconst 0, 1) := by decide +kernel
theorem dX1_forgetDay_1 : decode cX1_forgetDay 1 = .ok (.istore_n 1, 1) := by decide +kernel
theorem dX1_forgetDay_2 : decode cX1_forgetDay 2 = .ok (.iload_n 1, 1) := by decide +kernel
theorem dX1_forgetDay_3 : decode cX1_forgetDay 3 = .ok (.bipush 6, 2) := by decide +kernel
theorem dX1_forgetDay_5 : decode cX1_forgetDay 5 = .ok (.if_icmp .ge 16, 3) := by decide +kernel
theorem dX1_forgetDay_8 : decode cX1_forgetDay 8 = .ok (.aload_n 0, 1) := by decide +kernel
theorem dX1_forgetDay_9 : decode cX1_forgetDay 9 = .ok (.getfield 9, 3) := by decide +kernel
theorem dX1_forgetDay_12 : decode cX1_forgetDay 12 = .ok (.iload_n 1, 1) := by decide +kernel
theorem dX1_forgetDay_13 : decode cX1_forgetDay 13 = .ok (.iconst 0, 1) := by decide +kernel
theorem dX1_forgetDay_14 : decode cX1_forgetDay 14 = .ok (.iastore, 1) := by decide +kernel
theorem dX1_forgetDay_15 : decode cX1_forgetDay 15 = .ok (.iinc 1 1, 3) := by decide +kernel
theorem dX1_forgetDay_18 : decode cX1_forgetDay 18 = .ok (.goto (-16), 3) := by decide +kernel
theorem dX1_forgetDay_21 : decode cX1_forgetDay 21 = .ok (.return_, 1) := by decide +kernel
theorem dX1_heardInAll_0 : decode cX1_heardInAll 0 = .ok (.iconst 0, 1) := by decide +kernel
theorem dX1_heardInAll_1 : decode cX1_heardInAll 1 = .ok (.istore_n 1, 1) := by decide +kernel
theorem dX1_heardInAll_2 : decode cX1_heardInAll 2 = .ok (.iconst 0, 1) := by decide +kernel
theorem dX1_heardInAll_3 : decode cX1_heardInAll 3 = .ok (.istore_n 2, 1) := by decide +kernel
theorem dX1_heardInAll_4 : decode cX1_heardInAll 4 = .ok (.iload_n 2, 1) := by decide +kernel
theorem dX1_heardInAll_5 : decode cX1_heardInAll 5 = .ok (.bipush 6, 2) := by decide +kernel
theorem dX1_heardInAll_7 : decode cX1_heardInAll 7 = .ok (.if_icmp .ge 18, 3) := by decide +kernel
theorem dX1_heardInAll_10 : decode cX1_heardInAll 10 = .ok (.iload_n 1, 1) := by decide +kernel
theorem dX1_heardInAll_11 : decode cX1_heardInAll 11 = .ok (.aload_n 0, 1) := by decide +kernel
theorem dX1_heardInAll_12 : decode cX1_heardInAll 12 = .ok (.getfield 9, 3) := by decide +kernel
theorem dX1_heardInAll_15 : decode cX1_heardInAll 15 = .ok (.iload_n 2, 1) := by decide +kernel
theorem dX1_heardInAll_16 : decode cX1_heardInAll 16 = .ok (.iaload, 1) := by decide +kernel
theorem dX1_heardInAll_17 : decode cX1_heardInAll 17 = .ok (.iadd, 1) := by decide +kernel
theorem dX1_heardInAll_18 : decode cX1_heardInAll 18 = .ok (.istore_n 1, 1) := by decide +kernel
theorem dX1_heardInAll_19 : decode cX1_heardInAll 19 = .ok (.iinc 2 1, 3) := by decide +kernel
theorem dX1_heardInAll_22 : decode cX1_heardInAll 22 = .ok (.goto (-18), 3) := by decide +kernel
theorem dX1_heardInAll_25 : decode cX1_heardInAll 25 = .ok (.iload_n 1, 1) := by decide +kernel
theorem dX1_heardInAll_26 : decode cX1_heardInAll 26 = .ok (.ireturn, 1) := by decide +kernel
theorem dX1_tell_0 : decode cX1_tell 0 = .ok (.iload_n 1, 1) := by decide +kernel
theorem dX1_tell_1 : decode cX1_tell 1 = .ok (.tableswitch 60 0 3 #[31, 36, 41, 55], 31) := by decide +kernel
theorem dX1_tell_32 : decode cX1_tell 32 = .ok (.aload_n 0, 1) := by decide +kernel
theorem dX1_tell_33 : decode cX1_tell 33 = .ok (.getfield 19, 3) := by decide +kernel
theorem dX1_tell_36 : decode cX1_tell 36 = .ok (.ireturn, 1) := by decide +kernel
theorem dX1_tell_37 : decode cX1_tell 37 = .ok (.aload_n 0, 1) := by decide +kernel
theorem dX1_tell_38 : decode cX1_tell 38 = .ok (.getfield 15, 3) := by decide +kernel
theorem dX1_tell_41 : decode cX1_tell 41 = .ok (.ireturn, 1) := by decide +kernel
theorem dX1_tell_42 : decode cX1_tell 42 = .ok (.aload_n 0, 1) := by decide +kernel
theorem dX1_tell_43 : decode cX1_tell 43 = .ok (.iload_n 2, 1) := by decide +kernel
theorem dX1_tell_44 : decode cX1_tell 44 = .ok (.invokevirtual 22, 3) := by decide +kernel
theorem dX1_tell_47 : decode cX1_tell 47 = .ok (.ifCond .eq 7, 3) := by decide +kernel
theorem dX1_tell_50 : decode cX1_tell 50 = .ok (.iconst 1, 1) := by decide +kernel
theorem dX1_tell_51 : decode cX1_tell 51 = .ok (.goto 4, 3) := by decide +kernel
theorem dX1_tell_54 : decode cX1_tell 54 = .ok (.iconst 0, 1) := by decide +kernel
theorem dX1_tell_55 : decode cX1_tell 55 = .ok (.ireturn, 1) := by decide +kernel
theorem dX1_tell_56 : decode cX1_tell 56 = .ok (.aload_n 0, 1) := by decide +kernel
theorem dX1_tell_57 : decode cX1_tell 57 = .ok (.getfield 26, 3) := by decide +kernel
theorem dX1_tell_60 : decode cX1_tell 60 = .ok (.ireturn, 1) := by decide +kernel
theorem dX1_tell_61 : decode cX1_tell 61 = .ok (.aload_n 0, 1) := by decide +kernel
theorem dX1_tell_62 : decode cX1_tell 62 = .ok (.invokevirtual 29, 3) := by decide +kernel
theorem dX1_tell_65 : decode cX1_tell 65 = .ok (.ireturn, 1) := by decide +kernel
theorem dX2_init_0 : decode cX2_init 0 = .ok (.aload_n 0, 1) := by decide +kernel
theorem dX2_init_1 : decode cX2_init 1 = .ok (.invokespecial 3, 3) := by decide +kernel
theorem dX2_init_4 : decode cX2_init 4 = .ok (.aload_n 0, 1) := by decide +kernel
theorem dX2_init_5 : decode cX2_init 5 = .ok (.bipush 16, 2) := by decide +kernel
theorem dX2_init_7 : decode cX2_init 7 = .ok (.newarray .int, 2) := by decide +kernel
theorem dX2_init_9 : decode cX2_init 9 = .ok (.putfield 9, 3) := by decide +kernel
theorem dX2_init_12 : decode cX2_init 12 = .ok (.aload_n 0, 1) := by decide +kernel
theorem dX2_init_13 : decode cX2_init 13 = .ok (.bipush 12, 2) := by decide +kernel
theorem dX2_init_15 : decode cX2_init 15 = .ok (.newarray .int, 2) := by decide +kernel
theorem dX2_init_17 : decode cX2_init 17 = .ok (.putfield 15, 3) := by decide +kernel
theorem dX2_init_20 : decode cX2_init 20 = .ok (.return_, 1) := by decide +kernel
theorem dX2_append_0 : decode cX2_append 0 = .ok (.aload_n 0, 1) := by decide +kernel
theorem dX2_append_1 : decode cX2_append 1 = .ok (.getfield 9, 3) := by decide +kernel
theorem dX2_append_4 : decode cX2_append 4 = .ok (.aload_n 0, 1) := by decide +kernel
theorem dX2_append_5 : decode cX2_append 5 = .ok (.getfield 18, 3) := by decide +kernel
theorem dX2_append_8 : decode cX2_append 8 = .ok (.iload_n 1, 1) := by decide +kernel
theorem dX2_append_9 : decode cX2_append 9 = .ok (.iastore, 1) := by decide +kernel
theorem dX2_append_10 : decode cX2_append 10 = .ok (.aload_n 0, 1) := by decide +kernel
theorem dX2_append_11 : decode cX2_append 11 = .ok (.getfield 15, 3) := by decide +kernel
theorem dX2_append_14 : decode cX2_append 14 = .ok (.iload_n 1, 1) := by decide +kernel
theorem dX2_append_15 : decode cX2_append 15 = .ok (.dup2, 1) := by decide +kernel
theorem dX2_append_16 : decode cX2_append 16 = .ok (.iaload, 1) := by decide +kernel
theorem dX2_append_17 : decode cX2_append 17 = .ok (.iconst 1, 1) := by decide +kernel
theorem dX2_append_18 : decode cX2_append 18 = .ok (.iadd, 1) := by decide +kernel
theorem dX2_append_19 : decode cX2_append 19 = .ok (.iastore, 1) := by decide +kernel
theorem dX2_append_20 : decode cX2_append 20 = .ok (.aload_n 0, 1) := by decide +kernel
theorem dX2_append_21 : decode cX2_append 21 = .ok (.dup, 1) := by decide +kernel
theorem dX2_append_22 : decode cX2_append 22 = .ok (.getfield 18, 3) := by decide +kernel
theorem dX2_append_25 : decode cX2_append 25 = .ok (.iconst 1, 1) := by decide +kernel
theorem dX2_append_26 : decode cX2_append 26 = .ok (.iadd, 1) := by decide +kernel
theorem dX2_append_27 : decode cX2_append 27 = .ok (.putfield 18, 3) := by decide +kernel
theorem dX2_append_30 : decode cX2_append 30 = .ok (.aload_n 0, 1) := by decide +kernel
theorem dX2_append_31 : decode cX2_append 31 = .ok (.getfield 18, 3) := by decide +kernel
theorem dX2_append_34 : decode cX2_append 34 = .ok (.ireturn, 1) := by decide +kernel
theorem dX2_soundOf_0 : decode cX2_soundOf 0 = .ok (.aload_n 0, 1) := by decide +kernel
theorem dX2_soundOf_1 : decode cX2_soundOf 1 = .ok (.aload_n 1, 1) := by decide +kernel
theorem dX2_soundOf_2 : decode cX2_soundOf 2 = .ok (.iconst (-1), 1) := by decide +kernel
theorem dX2_soundOf_3 : decode cX2_soundOf 3 = .ok (.invokevirtual 22, 3) := by decide +kernel
theorem dX2_soundOf_6 : decode cX2_soundOf 6 = .ok (.ireturn, 1) := by decide +kernel
theorem dX2_soundSparing_0 : decode cX2_soundSparing 0 = .ok (.aload_n 0, 1) := by decide +kernel
theorem dX2_soundSparing_1 : decode cX2_soundSparing 1 = .ok (.getfield 18, 3) := by decide +kernel
theorem dX2_soundSparing_4 : decode cX2_soundSparing 4 = .ok (.ifCond .ne 5, 3) := by decide +kernel
theorem dX2_soundSparing_7 : decode cX2_soundSparing 7 = .ok (.iconst 0, 1) := by decide +kernel
theorem dX2_soundSparing_8 : decode cX2_soundSparing 8 = .ok (.ireturn, 1) := by decide +kernel
theorem dX2_soundSparing_9 : decode cX2_soundSparing 9 = .ok (.iconst 0, 1) := by decide +kernel
theorem dX2_soundSparing_10 : decode cX2_soundSparing 10 = .ok (.istore_n 3, 1) := by decide +kernel
theorem dX2_soundSparing_11 : decode cX2_soundSparing 11 = .ok (.iconst 0, 1) := by decide +kernel
theorem dX2_soundSparing_12 : decode cX2_soundSparing 12 = .ok (.istore 4, 2) := by decide +kernel
theorem dX2_soundSparing_14 : decode cX2_soundSparing 14 = .ok (.iload 4, 2) := by decide +kernel
theorem dX2_soundSparing_16 : decode cX2_soundSparing 16 = .ok (.bipush 12, 2) := by decide +kernel
theorem dX2_soundSparing_18 : decode cX2_soundSparing 18 = .ok (.if_icmp .ge 32, 3) := by decide +kernel
theorem dX2_soundSparing_21 : decode cX2_soundSparing 21 = .ok (.iload 4, 2) := by decide +kernel
theorem dX2_soundSparing_23 : decode cX2_soundSparing 23 = .ok (.iload_n 2, 1) := by decide +kernel
theorem dX2_soundSparing_24 : decode cX2_soundSparing 24 = .ok (.if_icmp .eq 20, 3) := by decide +kernel
theorem dX2_soundSparing_27 : decode cX2_soundSparing 27 = .ok (.iload_n 3, 1) := by decide +kernel
theorem dX2_soundSparing_28 : decode cX2_soundSparing 28 = .ok (.aload_n 0, 1) := by decide +kernel
theorem dX2_soundSparing_29 : decode cX2_soundSparing 29 = .ok (.getfield 15, 3) := by decide +kernel
theorem dX2_soundSparing_32 : decode cX2_soundSparing 32 = .ok (.iload 4, 2) := by decide +kernel
theorem dX2_soundSparing_34 : decode cX2_soundSparing 34 = .ok (.iaload, 1) := by decide +kernel
theorem dX2_soundSparing_35 : decode cX2_soundSparing 35 = .ok (.aload_n 1, 1) := by decide +kernel
theorem dX2_soundSparing_36 : decode cX2_soundSparing 36 = .ok (.iload 4, 2) := by decide +kernel
theorem dX2_soundSparing_38 : decode cX2_soundSparing 38 = .ok (.invokevirtual 26, 3) := by decide +kernel
theorem dX2_soundSparing_41 : decode cX2_soundSparing 41 = .ok (.imul, 1) := by decide +kernel
theorem dX2_soundSparing_42 : decode cX2_soundSparing 42 = .ok (.iadd, 1) := by decide +kernel
theorem dX2_soundSparing_43 : decode cX2_soundSparing 43 = .ok (.istore_n 3, 1) := by decide +kernel
theorem dX2_soundSparing_44 : decode cX2_soundSparing 44 = .ok (.iinc 4 1, 3) := by decide +kernel
theorem dX2_soundSparing_47 : decode cX2_soundSparing 47 = .ok (.goto (-33), 3) := by decide +kernel
theorem dX2_soundSparing_50 : decode cX2_soundSparing 50 = .ok (.bipush 60, 2) := by decide +kernel
theorem dX2_soundSparing_52 : decode cX2_soundSparing 52 = .ok (.iload_n 3, 1) := by decide +kernel
theorem dX2_soundSparing_53 : decode cX2_soundSparing 53 = .ok (.aload_n 0, 1) := by decide +kernel
theorem dX2_soundSparing_54 : decode cX2_soundSparing 54 = .ok (.getfield 18, 3) := by decide +kernel
theorem dX2_soundSparing_57 : decode cX2_soundSparing 57 = .ok (.idiv, 1) := by decide +kernel
theorem dX2_soundSparing_58 : decode cX2_soundSparing 58 = .ok (.isub, 1) := by decide +kernel
theorem dX2_soundSparing_59 : decode cX2_soundSparing 59 = .ok (.ireturn, 1) := by decide +kernel
theorem dX2_wearDown_0 : decode cX2_wearDown 0 = .ok (.iconst 0, 1) := by decide +kernel
theorem dX2_wearDown_1 : decode cX2_wearDown 1 = .ok (.istore_n 2, 1) := by decide +kernel
theorem dX2_wearDown_2 : decode cX2_wearDown 2 = .ok (.iload_n 2, 1) := by decide +kernel
theorem dX2_wearDown_3 : decode cX2_wearDown 3 = .ok (.bipush 12, 2) := by decide +kernel
theorem dX2_wearDown_5 : decode cX2_wearDown 5 = .ok (.if_icmp .ge 29, 3) := by decide +kernel
theorem dX2_wearDown_8 : decode cX2_wearDown 8 = .ok (.aload_n 0, 1) := by decide +kernel
theorem dX2_wearDown_9 : decode cX2_wearDown 9 = .ok (.getfield 15, 3) := by decide +kernel
theorem dX2_wearDown_12 : decode cX2_wearDown 12 = .ok (.iload_n 2, 1) := by decide +kernel
theorem dX2_wearDown_13 : decode cX2_wearDown 13 = .ok (.iaload, 1) := by decide +kernel
theorem dX2_wearDown_14 : decode cX2_wearDown 14 = .ok (.ifCond .le 14, 3) := by decide +kernel
theorem dX2_wearDown_17 : decode cX2_wearDown 17 = .ok (.aload_n 1, 1) := by decide +kernel
theorem dX2_wearDown_18 : decode cX2_wearDown 18 = .ok (.iload_n 2, 1) := by decide +kernel
theorem dX2_wearDown_19 : decode cX2_wearDown 19 = .ok (.aload_n 0, 1) := by decide +kernel
theorem dX2_wearDown_20 : decode cX2_wearDown 20 = .ok (.getfield 15, 3) := by decide +kernel
theorem dX2_wearDown_23 : decode cX2_wearDown 23 = .ok (.iload_n 2, 1) := by decide +kernel
theorem dX2_wearDown_24 : decode cX2_wearDown 24 = .ok (.iaload, 1) := by decide +kernel
theorem dX2_wearDown_25 : decode cX2_wearDown 25 = .ok (.invokevirtual 32, 3) := by decide +kernel
theorem dX2_wearDown_28 : decode cX2_wearDown 28 = .ok (.iinc 2 1, 3) := by decide +kernel
theorem dX2_wearDown_31 : decode cX2_wearDown 31 = .ok (.goto (-29), 3) := by decide +kernel
theorem dX2_wearDown_34 : decode cX2_wearDown 34 = .ok (.return_, 1) := by decide +kernel
theorem dX3_init_0 : decode cX3_init 0 = .ok (.aload_n 0, 1) := by decide +kernel
theorem dX3_init_1 : decode cX3_init 1 = .ok (.invokespecial 1, 3) := by decide +kernel
theorem dX3_init_4 : decode cX3_init 4 = .ok (.aload_n 0, 1) := by decide +kernel
theorem dX3_init_5 : decode cX3_init 5 = .ok (.new 7, 3) := by decide +kernel
theorem dX3_init_8 : decode cX3_init 8 = .ok (.dup, 1) := by decide +kernel
theorem dX3_init_9 : decode cX3_init 9 = .ok (.invokespecial 9, 3) := by decide +kernel
theorem dX3_init_12 : decode cX3_init 12 = .ok (.putfield 10, 3) := by decide +kernel
theorem dX3_init_15 : decode cX3_init 15 = .ok (.aload_n 0, 1) := by decide +kernel
theorem dX3_init_16 : decode cX3_init 16 = .ok (.new 7, 3) := by decide +kernel
theorem dX3_init_19 : decode cX3_init 19 = .ok (.dup, 1) := by decide +kernel
theorem dX3_init_20 : decode cX3_init 20 = .ok (.invokespecial 9, 3) := by decide +kernel
theorem dX3_init_23 : decode cX3_init 23 = .ok (.putfield 16, 3) := by decide +kernel
theorem dX3_init_26 : decode cX3_init 26 = .ok (.aload_n 0, 1) := by decide +kernel
theorem dX3_init_27 : decode cX3_init 27 = .ok (.bipush 6, 2) := by decide +kernel
theorem dX3_init_29 : decode cX3_init 29 = .ok (.anewarray 19, 3) := by decide +kernel
theorem dX3_init_32 : decode cX3_init 32 = .ok (.putfield 21, 3) := by decide +kernel
theorem dX3_init_35 : decode cX3_init 35 = .ok (.iconst 0, 1) := by decide +kernel
theorem dX3_init_36 : decode cX3_init 36 = .ok (.istore_n 1, 1) := by decide +kernel
theorem dX3_init_37 : decode cX3_init 37 = .ok (.iload_n 1, 1) := by decide +kernel
theorem dX3_init_38 : decode cX3_init 38 = .ok (.bipush 6, 2) := by decide +kernel
theorem dX3_init_40 : decode cX3_init 40 = .ok (.if_icmp .ge 22, 3) := by decide +kernel
theorem dX3_init_43 : decode cX3_init 43 = .ok (.aload_n 0, 1) := by decide +kernel
theorem dX3_init_44 : decode cX3_init 44 = .ok (.getfield 21, 3) := by decide +kernel
theorem dX3_init_47 : decode cX3_init 47 = .ok (.iload_n 1, 1) := by decide +kernel
theorem dX3_init_48 : decode cX3_init 48 = .ok (.new 19, 3) := by decide +kernel
theorem dX3_init_51 : decode cX3_init 51 = .ok (.dup, 1) := by decide +kernel
theorem dX3_init_52 : decode cX3_init 52 = .ok (.invokespecial 25, 3) := by decide +kernel
theorem dX3_init_55 : decode cX3_init 55 = .ok (.aastore, 1) := by decide +kernel
theorem dX3_init_56 : decode cX3_init 56 = .ok (.iinc 1 1, 3) := by decide +kernel
theorem dX3_init_59 : decode cX3_init 59 = .ok (.goto (-22), 3) := by decide +kernel
theorem dX3_init_62 : decode cX3_init 62 = .ok (.aload_n 0, 1) := by decide +kernel
theorem dX3_init_63 : decode cX3_init 63 = .ok (.bipush 8, 2) := by decide +kernel
theorem dX3_init_65 : decode cX3_init 65 = .ok (.anewarray 26, 3) := by decide +kernel
theorem dX3_init_68 : decode cX3_init 68 = .ok (.putfield 28, 3) := by decide +kernel
theorem dX3_init_71 : decode cX3_init 71 = .ok (.iconst 0, 1) := by decide +kernel
theorem dX3_init_72 : decode cX3_init 72 = .ok (.istore_n 1, 1) := by decide +kernel
theorem dX3_init_73 : decode cX3_init 73 = .ok (.iload_n 1, 1) := by decide +kernel
theorem dX3_init_74 : decode cX3_init 74 = .ok (.bipush 8, 2) := by decide +kernel
theorem dX3_init_76 : decode cX3_init 76 = .ok (.if_icmp .ge 22, 3) := by decide +kernel
theorem dX3_init_79 : decode cX3_init 79 = .ok (.aload_n 0, 1) := by decide +kernel
theorem dX3_init_80 : decode cX3_init 80 = .ok (.getfield 28, 3) := by decide +kernel
theorem dX3_init_83 : decode cX3_init 83 = .ok (.iload_n 1, 1) := by decide +kernel
theorem dX3_init_84 : decode cX3_init 84 = .ok (.new 26, 3) := by decide +kernel
theorem dX3_init_87 : decode cX3_init 87 = .ok (.dup, 1) := by decide +kernel
theorem dX3_init_88 : decode cX3_init 88 = .ok (.invokespecial 32, 3) := by decide +kernel
theorem dX3_init_91 : decode cX3_init 91 = .ok (.aastore, 1) := by decide +kernel
theorem dX3_init_92 : decode cX3_init 92 = .ok (.iinc 1 1, 3) := by decide +kernel
theorem dX3_init_95 : decode cX3_init 95 = .ok (.goto (-22), 3) := by decide +kernel
theorem dX3_init_98 : decode cX3_init 98 = .ok (.aload_n 0, 1) := by decide +kernel
theorem dX3_init_99 : decode cX3_init 99 = .ok (.bipush 7, 2) := by decide +kernel
theorem dX3_init_101 : decode cX3_init 101 = .ok (.newarray .int, 2) := by decide +kernel
theorem dX3_init_103 : decode cX3_init 103 = .ok (.putfield 33, 3) := by decide +kernel
theorem dX3_init_106 : decode cX3_init 106 = .ok (.aload_n 0, 1) := by decide +kernel
theorem dX3_init_107 : decode cX3_init 107 = .ok (.bipush 20, 2) := by decide +kernel
theorem dX3_init_109 : decode cX3_init 109 = .ok (.putfield 37, 3) := by decide +kernel
theorem dX3_init_112 : decode cX3_init 112 = .ok (.return_, 1) := by decide +kernel
theorem dX3_barrel_0 : decode cX3_barrel 0 = .ok (.aload_n 0, 1) := by decide +kernel
theorem dX3_barrel_1 : decode cX3_barrel 1 = .ok (.getfield 41, 3) := by decide +kernel
theorem dX3_barrel_4 : decode cX3_barrel 4 = .ok (.bipush 6, 2) := by decide +kernel
theorem dX3_barrel_6 : decode cX3_barrel 6 = .ok (.if_icmp .lt 13, 3) := by decide +kernel
theorem dX3_barrel_9 : decode cX3_barrel 9 = .ok (.new 44, 3) := by decide +kernel
theorem dX3_barrel_12 : decode cX3_barrel 12 = .ok (.dup, 1) := by decide +kernel
theorem dX3_barrel_13 : decode cX3_barrel 13 = .ok (.ldc 46, 2) := by decide +kernel
theorem dX3_barrel_15 : decode cX3_barrel 15 = .ok (.invokespecial 48, 3) := by decide +kernel
theorem dX3_barrel_18 : decode cX3_barrel 18 = .ok (.athrow, 1) := by decide +kernel
theorem dX3_barrel_19 : decode cX3_barrel 19 = .ok (.aload_n 0, 1) := by decide +kernel
theorem dX3_barrel_20 : decode cX3_barrel 20 = .ok (.dup, 1) := by decide +kernel
theorem dX3_barrel_21 : decode cX3_barrel 21 = .ok (.getfield 41, 3) := by decide +kernel
theorem dX3_barrel_24 : decode cX3_barrel 24 = .ok (.dup_x1, 1) := by decide +kernel
theorem dX3_barrel_25 : decode cX3_barrel 25 = .ok (.iconst 1, 1) := by decide +kernel
theorem dX3_barrel_26 : decode cX3_barrel 26 = .ok (.iadd, 1) := by decide +kernel
theorem dX3_barrel_27 : decode cX3_barrel 27 = .ok (.putfield 41, 3) := by decide +kernel
theorem dX3_barrel_30 : decode cX3_barrel 30 = .ok (.ireturn, 1) := by decide +kernel
theorem dX3_pin_0 : decode cX3_pin 0 = .ok (.aload_n 0, 1) := by decide +kernel
theorem dX3_pin_1 : decode cX3_pin 1 = .ok (.iload_n 1, 1) := by decide +kernel
theorem dX3_pin_2 : decode cX3_pin 2 = .ok (.invokevirtual 51, 3) := by decide +kernel
theorem dX3_pin_5 : decode cX3_pin 5 = .ok (.iload_n 2, 1) := by decide +kernel
theorem dX3_pin_6 : decode cX3_pin 6 = .ok (.invokestatic 55, 3) := by decide +kernel
theorem dX3_pin_9 : decode cX3_pin 9 = .ok (.aload_n 0, 1) := by decide +kernel
theorem dX3_pin_10 : decode cX3_pin 10 = .ok (.getfield 21, 3) := by decide +kernel
theorem dX3_pin_13 : decode cX3_pin 13 = .ok (.iload_n 1, 1) := by decide +kernel
theorem dX3_pin_14 : decode cX3_pin 14 = .ok (.aaload, 1) := by decide +kernel
theorem dX3_pin_15 : decode cX3_pin 15 = .ok (.getfield 58, 3) := by decide +kernel
theorem dX3_pin_18 : decode cX3_pin 18 = .ok (.bipush 16, 2) := by decide +kernel
theorem dX3_pin_20 : decode cX3_pin 20 = .ok (.if_icmp .lt 13, 3) := by decide +kernel
theorem dX3_pin_23 : decode cX3_pin 23 = .ok (.new 44, 3) := by decide +kernel
theorem dX3_pin_26 : decode cX3_pin 26 = .ok (.dup, 1) := by decide +kernel
theorem dX3_pin_27 : decode cX3_pin 27 = .ok (.ldc 61, 2) := by decide +kernel
theorem dX3_pin_29 : decode cX3_pin 29 = .ok (.invokespecial 48, 3) := by decide +kernel
theorem dX3_pin_32 : decode cX3_pin 32 = .ok (.athrow, 1) := by decide +kernel
theorem dX3_pin_33 : decode cX3_pin 33 = .ok (.aload_n 0, 1) := by decide +kernel
theorem dX3_pin_34 : decode cX3_pin 34 = .ok (.getfield 21, 3) := by decide +kernel
theorem dX3_pin_37 : decode cX3_pin 37 = .ok (.iload_n 1, 1) := by decide +kernel
theorem dX3_pin_38 : decode cX3_pin 38 = .ok (.aaload, 1) := by decide +kernel
theorem dX3_pin_39 : decode cX3_pin 39 = .ok (.iload_n 2, 1) := by decide +kernel
theorem dX3_pin_40 : decode cX3_pin 40 = .ok (.invokevirtual 63, 3) := by decide +kernel
theorem dX3_pin_43 : decode cX3_pin 43 = .ok (.ireturn, 1) := by decide +kernel
theorem dX3_note_0 : decode cX3_note 0 = .ok (.aload_n 0, 1) := by decide +kernel
theorem dX3_note_1 : decode cX3_note 1 = .ok (.iload_n 1, 1) := by decide +kernel
theorem dX3_note_2 : decode cX3_note 2 = .ok (.invokevirtual 51, 3) := by decide +kernel
theorem dX3_note_5 : decode cX3_note 5 = .ok (.iload_n 2, 1) := by decide +kernel
theorem dX3_note_6 : decode cX3_note 6 = .ok (.ifCond .lt 16, 3) := by decide +kernel
theorem dX3_note_9 : decode cX3_note 9 = .ok (.iload_n 2, 1) := by decide +kernel
theorem dX3_note_10 : decode cX3_note 10 = .ok (.aload_n 0, 1) := by decide +kernel
theorem dX3_note_11 : decode cX3_note 11 = .ok (.getfield 21, 3) := by decide +kernel
theorem dX3_note_14 : decode cX3_note 14 = .ok (.iload_n 1, 1) := by decide +kernel
theorem dX3_note_15 : decode cX3_note 15 = .ok (.aaload, 1) := by decide +kernel
theorem dX3_note_16 : decode cX3_note 16 = .ok (.getfield 58, 3) := by decide +kernel
theorem dX3_note_19 : decode cX3_note 19 = .ok (.if_icmp .lt 13, 3) := by decide +kernel
theorem dX3_note_22 : decode cX3_note 22 = .ok (.new 67, 3) := by decide +kernel
theorem dX3_note_25 : decode cX3_note 25 = .ok (.dup, 1) := by decide +kernel
theorem dX3_note_26 : decode cX3_note 26 = .ok (.ldc 69, 2) := by decide +kernel
theorem dX3_note_28 : decode cX3_note 28 = .ok (.invokespecial 71, 3) := by decide +kernel
theorem dX3_note_31 : decode cX3_note 31 = .ok (.athrow, 1) := by decide +kernel
theorem dX3_note_32 : decode cX3_note 32 = .ok (.aload_n 0, 1) := by decide +kernel
theorem dX3_note_33 : decode cX3_note 33 = .ok (.getfield 21, 3) := by decide +kernel
theorem dX3_note_36 : decode cX3_note 36 = .ok (.iload_n 1, 1) := by decide +kernel
theorem dX3_note_37 : decode cX3_note 37 = .ok (.aaload, 1) := by decide +kernel
theorem dX3_note_38 : decode cX3_note 38 = .ok (.getfield 72, 3) := by decide +kernel
theorem dX3_note_41 : decode cX3_note 41 = .ok (.iload_n 2, 1) := by decide +kernel
theorem dX3_note_42 : decode cX3_note 42 = .ok (.iaload, 1) := by decide +kernel
theorem dX3_note_43 : decode cX3_note 43 = .ok (.ireturn, 1) := by decide +kernel
theorem dX3_street_0 : decode cX3_street 0 = .ok (.iload_n 1, 1) := by decide +kernel
theorem dX3_street_1 : decode cX3_street 1 = .ok (.ifCond .lt 9, 3) := by decide +kernel
theorem dX3_street_4 : decode cX3_street 4 = .ok (.iload_n 1, 1) := by decide +kernel
theorem dX3_street_5 : decode cX3_street 5 = .ok (.bipush 90, 2) := by decide +kernel
theorem dX3_street_7 : decode cX3_street 7 = .ok (.if_icmp .le 13, 3) := by decide +kernel
theorem dX3_street_10 : decode cX3_street 10 = .ok (.new 75, 3) := by decide +kernel
theorem dX3_street_13 : decode cX3_street 13 = .ok (.dup, 1) := by decide +kernel
theorem dX3_street_14 : decode cX3_street 14 = .ok (.ldc 77, 2) := by decide +kernel
theorem dX3_street_16 : decode cX3_street 16 = .ok (.invokespecial 79, 3) := by decide +kernel
theorem dX3_street_19 : decode cX3_street 19 = .ok (.athrow, 1) := by decide +kernel
theorem dX3_street_20 : decode cX3_street 20 = .ok (.iload_n 2, 1) := by decide +kernel
theorem dX3_street_21 : decode cX3_street 21 = .ok (.invokestatic 80, 3) := by decide +kernel
theorem dX3_street_24 : decode cX3_street 24 = .ok (.aload_n 0, 1) := by decide +kernel
theorem dX3_street_25 : decode cX3_street 25 = .ok (.getfield 83, 3) := by decide +kernel
theorem dX3_street_28 : decode cX3_street 28 = .ok (.bipush 8, 2) := by decide +kernel
theorem dX3_street_30 : decode cX3_street 30 = .ok (.if_icmp .lt 13, 3) := by decide +kernel
theorem dX3_street_33 : decode cX3_street 33 = .ok (.new 44, 3) := by decide +kernel
theorem dX3_street_36 : decode cX3_street 36 = .ok (.dup, 1) := by decide +kernel
theorem dX3_street_37 : decode cX3_street 37 = .ok (.ldc 86, 2) := by decide +kernel
theorem dX3_street_39 : decode cX3_street 39 = .ok (.invokespecial 48, 3) := by decide +kernel
theorem dX3_street_42 : decode cX3_street 42 = .ok (.athrow, 1) := by decide +kernel
theorem dX3_street_43 : decode cX3_street 43 = .ok (.aload_n 0, 1) := by decide +kernel
theorem dX3_street_44 : decode cX3_street 44 = .ok (.getfield 28, 3) := by decide +kernel
theorem dX3_street_47 : decode cX3_street 47 = .ok (.aload_n 0, 1) := by decide +kernel
theorem dX3_street_48 : decode cX3_street 48 = .ok (.getfield 83, 3) := by decide +kernel
theorem dX3_street_51 : decode cX3_street 51 = .ok (.aaload, 1) := by decide +kernel
theorem dX3_street_52 : decode cX3_street 52 = .ok (.iload_n 1, 1) := by decide +kernel
theorem dX3_street_53 : decode cX3_street 53 = .ok (.putfield 88, 3) := by decide +kernel
theorem dX3_street_56 : decode cX3_street 56 = .ok (.aload_n 0, 1) := by decide +kernel
theorem dX3_street_57 : decode cX3_street 57 = .ok (.getfield 28, 3) := by decide +kernel
theorem dX3_street_60 : decode cX3_street 60 = .ok (.aload_n 0, 1) := by decide +kernel
theorem dX3_street_61 : decode cX3_street 61 = .ok (.getfield 83, 3) := by decide +kernel
theorem dX3_street_64 : decode cX3_street 64 = .ok (.aaload, 1) := by decide +kernel
theorem dX3_street_65 : decode cX3_street 65 = .ok (.iload_n 2, 1) := by decide +kernel
theorem dX3_street_66 : decode cX3_street 66 = .ok (.putfield 91, 3) := by decide +kernel
theorem dX3_street_69 : decode cX3_street 69 = .ok (.aload_n 0, 1) := by decide +kernel
theorem dX3_street_70 : decode cX3_street 70 = .ok (.dup, 1) := by decide +kernel
theorem dX3_street_71 : decode cX3_street 71 = .ok (.getfield 83, 3) := by decide +kernel
theorem dX3_street_74 : decode cX3_street 74 = .ok (.dup_x1, 1) := by decide +kernel
theorem dX3_street_75 : decode cX3_street 75 = .ok (.iconst 1, 1) := by decide +kernel
theorem dX3_street_76 : decode cX3_street 76 = .ok (.iadd, 1) := by decide +kernel
theorem dX3_street_77 : decode cX3_street 77 = .ok (.putfield 83, 3) := by decide +kernel
theorem dX3_street_80 : decode cX3_street 80 = .ok (.ireturn, 1) := by decide +kernel
theorem dX3_permit_0 : decode cX3_permit 0 = .ok (.aload_n 0, 1) := by decide +kernel
theorem dX3_permit_1 : decode cX3_permit 1 = .ok (.iload_n 1, 1) := by decide +kernel
theorem dX3_permit_2 : decode cX3_permit 2 = .ok (.invokevirtual 94, 3) := by decide +kernel
theorem dX3_permit_5 : decode cX3_permit 5 = .ok (.iload_n 2, 1) := by decide +kernel
theorem dX3_permit_6 : decode cX3_permit 6 = .ok (.invokestatic 80, 3) := by decide +kernel
theorem dX3_permit_9 : decode cX3_permit 9 = .ok (.aload_n 0, 1) := by decide +kernel
theorem dX3_permit_10 : decode cX3_permit 10 = .ok (.getfield 28, 3) := by decide +kernel
theorem dX3_permit_13 : decode cX3_permit 13 = .ok (.iload_n 1, 1) := by decide +kernel
theorem dX3_permit_14 : decode cX3_permit 14 = .ok (.aaload, 1) := by decide +kernel
theorem dX3_permit_15 : decode cX3_permit 15 = .ok (.getfield 91, 3) := by decide +kernel
theorem dX3_permit_18 : decode cX3_permit 18 = .ok (.istore_n 3, 1) := by decide +kernel
theorem dX3_permit_19 : decode cX3_permit 19 = .ok (.aload_n 0, 1) := by decide +kernel
theorem dX3_permit_20 : decode cX3_permit 20 = .ok (.getfield 28, 3) := by decide +kernel
theorem dX3_permit_23 : decode cX3_permit 23 = .ok (.iload_n 1, 1) := by decide +kernel
theorem dX3_permit_24 : decode cX3_permit 24 = .ok (.aaload, 1) := by decide +kernel
theorem dX3_permit_25 : decode cX3_permit 25 = .ok (.iload_n 2, 1) := by decide +kernel
theorem dX3_permit_26 : decode cX3_permit 26 = .ok (.putfield 91, 3) := by decide +kernel
theorem dX3_permit_29 : decode cX3_permit 29 = .ok (.iload_n 3, 1) := by decide +kernel
theorem dX3_permit_30 : decode cX3_permit 30 = .ok (.ireturn, 1) := by decide +kernel
theorem dX3_setDamp_0 : decode cX3_setDamp 0 = .ok (.iload_n 1, 1) := by decide +kernel
theorem dX3_setDamp_1 : decode cX3_setDamp 1 = .ok (.ifCond .lt 9, 3) := by decide +kernel
theorem dX3_setDamp_4 : decode cX3_setDamp 4 = .ok (.iload_n 1, 1) := by decide +kernel
theorem dX3_setDamp_5 : decode cX3_setDamp 5 = .ok (.bipush 7, 2) := by decide +kernel
theorem dX3_setDamp_7 : decode cX3_setDamp 7 = .ok (.if_icmp .lt 13, 3) := by decide +kernel
theorem dX3_setDamp_10 : decode cX3_setDamp 10 = .ok (.new 67, 3) := by decide +kernel
theorem dX3_setDamp_13 : decode cX3_setDamp 13 = .ok (.dup, 1) := by decide +kernel
theorem dX3_setDamp_14 : decode cX3_setDamp 14 = .ok (.ldc 97, 2) := by decide +kernel
theorem dX3_setDamp_16 : decode cX3_setDamp 16 = .ok (.invokespecial 71, 3) := by decide +kernel
theorem dX3_setDamp_19 : decode cX3_setDamp 19 = .ok (.athrow, 1) := by decide +kernel
theorem dX3_setDamp_20 : decode cX3_setDamp 20 = .ok (.iload_n 2, 1) := by decide +kernel
theorem dX3_setDamp_21 : decode cX3_setDamp 21 = .ok (.ifCond .lt 8, 3) := by decide +kernel
theorem dX3_setDamp_24 : decode cX3_setDamp 24 = .ok (.iload_n 2, 1) := by decide +kernel
theorem dX3_setDamp_25 : decode cX3_setDamp 25 = .ok (.iconst 5, 1) := by decide +kernel
theorem dX3_setDamp_26 : decode cX3_setDamp 26 = .ok (.if_icmp .le 13, 3) := by decide +kernel
theorem dX3_setDamp_29 : decode cX3_setDamp 29 = .ok (.new 75, 3) := by decide +kernel
theorem dX3_setDamp_32 : decode cX3_setDamp 32 = .ok (.dup, 1) := by decide +kernel
theorem dX3_setDamp_33 : decode cX3_setDamp 33 = .ok (.ldc 99, 2) := by decide +kernel
theorem dX3_setDamp_35 : decode cX3_setDamp 35 = .ok (.invokespecial 79, 3) := by decide +kernel
theorem dX3_setDamp_38 : decode cX3_setDamp 38 = .ok (.athrow, 1) := by decide +kernel
theorem dX3_setDamp_39 : decode cX3_setDamp 39 = .ok (.aload_n 0, 1) := by decide +kernel
theorem dX3_setDamp_40 : decode cX3_setDamp 40 = .ok (.getfield 33, 3) := by decide +kernel
theorem dX3_setDamp_43 : decode cX3_setDamp 43 = .ok (.iload_n 1, 1) := by decide +kernel
theorem dX3_setDamp_44 : decode cX3_setDamp 44 = .ok (.iaload, 1) := by decide +kernel
theorem dX3_setDamp_45 : decode cX3_setDamp 45 = .ok (.istore_n 3, 1) := by decide +kernel
theorem dX3_setDamp_46 : decode cX3_setDamp 46 = .ok (.aload_n 0, 1) := by decide +kernel
theorem dX3_setDamp_47 : decode cX3_setDamp 47 = .ok (.getfield 33, 3) := by decide +kernel
theorem dX3_setDamp_50 : decode cX3_setDamp 50 = .ok (.iload_n 1, 1) := by decide +kernel
theorem dX3_setDamp_51 : decode cX3_setDamp 51 = .ok (.iload_n 2, 1) := by decide +kernel
theorem dX3_setDamp_52 : decode cX3_setDamp 52 = .ok (.iastore, 1) := by decide +kernel
theorem dX3_setDamp_53 : decode cX3_setDamp 53 = .ok (.iload_n 3, 1) := by decide +kernel
theorem dX3_setDamp_54 : decode cX3_setDamp 54 = .ok (.ireturn, 1) := by decide +kernel
theorem dX3_play_0 : decode cX3_play 0 = .ok (.aload_n 0, 1) := by decide +kernel
theorem dX3_play_1 : decode cX3_play 1 = .ok (.iload_n 1, 1) := by decide +kernel
theorem dX3_play_2 : decode cX3_play 2 = .ok (.invokevirtual 94, 3) := by decide +kernel
theorem dX3_play_5 : decode cX3_play 5 = .ok (.aload_n 0, 1) := by decide +kernel
theorem dX3_play_6 : decode cX3_play 6 = .ok (.iload_n 2, 1) := by decide +kernel
theorem dX3_play_7 : decode cX3_play 7 = .ok (.invokevirtual 51, 3) := by decide +kernel
theorem dX3_play_10 : decode cX3_play 10 = .ok (.aload_n 0, 1) := by decide +kernel
theorem dX3_play_11 : decode cX3_play 11 = .ok (.getfield 21, 3) := by decide +kernel
theorem dX3_play_14 : decode cX3_play 14 = .ok (.iload_n 2, 1) := by decide +kernel
theorem dX3_play_15 : decode cX3_play 15 = .ok (.aaload, 1) := by decide +kernel
theorem dX3_play_16 : decode cX3_play 16 = .ok (.getfield 58, 3) := by decide +kernel
theorem dX3_play_19 : decode cX3_play 19 = .ok (.ifCond .ne 13, 3) := by decide +kernel
theorem dX3_play_22 : decode cX3_play 22 = .ok (.new 44, 3) := by decide +kernel
theorem dX3_play_25 : decode cX3_play 25 = .ok (.dup, 1) := by decide +kernel
theorem dX3_play_26 : decode cX3_play 26 = .ok (.ldc 101, 2) := by decide +kernel
theorem dX3_play_28 : decode cX3_play 28 = .ok (.invokespecial 48, 3) := by decide +kernel
theorem dX3_play_31 : decode cX3_play 31 = .ok (.athrow, 1) := by decide +kernel
theorem dX3_play_32 : decode cX3_play 32 = .ok (.aload_n 0, 1) := by decide +kernel
theorem dX3_play_33 : decode cX3_play 33 = .ok (.getfield 28, 3) := by decide +kernel
theorem dX3_play_36 : decode cX3_play 36 = .ok (.iload_n 1, 1) := by decide +kernel
theorem dX3_play_37 : decode cX3_play 37 = .ok (.aaload, 1) := by decide +kernel
theorem dX3_play_38 : decode cX3_play 38 = .ok (.aload_n 0, 1) := by decide +kernel
theorem dX3_play_39 : decode cX3_play 39 = .ok (.getfield 103, 3) := by decide +kernel
theorem dX3_play_42 : decode cX3_play 42 = .ok (.invokestatic 106, 3) := by decide +kernel
theorem dX3_play_45 : decode cX3_play 45 = .ok (.invokevirtual 109, 3) := by decide +kernel
theorem dX3_play_48 : decode cX3_play 48 = .ok (.ifCond .ne 9, 3) := by decide +kernel
theorem dX3_play_51 : decode cX3_play 51 = .ok (.aload_n 0, 1) := by decide +kernel
theorem dX3_play_52 : decode cX3_play 52 = .ok (.invokevirtual 113, 3) := by decide +kernel
theorem dX3_play_55 : decode cX3_play 55 = .ok (.ineg, 1) := by decide +kernel
theorem dX3_play_56 : decode cX3_play 56 = .ok (.ireturn, 1) := by decide +kernel
theorem dX3_play_57 : decode cX3_play 57 = .ok (.aload_n 0, 1) := by decide +kernel
theorem dX3_play_58 : decode cX3_play 58 = .ok (.iload_n 1, 1) := by decide +kernel
theorem dX3_play_59 : decode cX3_play 59 = .ok (.iload_n 2, 1) := by decide +kernel
theorem dX3_play_60 : decode cX3_play 60 = .ok (.invokevirtual 117, 3) := by decide +kernel
theorem dX3_play_63 : decode cX3_play 63 = .ok (.istore_n 3, 1) := by decide +kernel
theorem dX3_play_64 : decode cX3_play 64 = .ok (.aload_n 0, 1) := by decide +kernel
theorem dX3_play_65 : decode cX3_play 65 = .ok (.dup, 1) := by decide +kernel
theorem dX3_play_66 : decode cX3_play 66 = .ok (.getfield 37, 3) := by decide +kernel
theorem dX3_play_69 : decode cX3_play 69 = .ok (.iload_n 3, 1) := by decide +kernel
theorem dX3_play_70 : decode cX3_play 70 = .ok (.iadd, 1) := by decide +kernel
theorem dX3_play_71 : decode cX3_play 71 = .ok (.putfield 37, 3) := by decide +kernel
theorem dX3_play_74 : decode cX3_play 74 = .ok (.aload_n 0, 1) := by decide +kernel
theorem dX3_play_75 : decode cX3_play 75 = .ok (.getfield 28, 3) := by decide +kernel
theorem dX3_play_78 : decode cX3_play 78 = .ok (.iload_n 1, 1) := by decide +kernel
theorem dX3_play_79 : decode cX3_play 79 = .ok (.aaload, 1) := by decide +kernel
theorem dX3_play_80 : decode cX3_play 80 = .ok (.dup, 1) := by decide +kernel
theorem dX3_play_81 : decode cX3_play 81 = .ok (.getfield 121, 3) := by decide +kernel
theorem dX3_play_84 : decode cX3_play 84 = .ok (.iload_n 3, 1) := by decide +kernel
theorem dX3_play_85 : decode cX3_play 85 = .ok (.iadd, 1) := by decide +kernel
theorem dX3_play_86 : decode cX3_play 86 = .ok (.putfield 121, 3) := by decide +kernel
theorem dX3_play_89 : decode cX3_play 89 = .ok (.aload_n 0, 1) := by decide +kernel
theorem dX3_play_90 : decode cX3_play 90 = .ok (.getfield 28, 3) := by decide +kernel
theorem dX3_play_93 : decode cX3_play 93 = .ok (.iload_n 1, 1) := by decide +kernel
theorem dX3_play_94 : decode cX3_play 94 = .ok (.aaload, 1) := by decide +kernel
theorem dX3_play_95 : decode cX3_play 95 = .ok (.getfield 124, 3) := by decide +kernel
theorem dX3_play_98 : decode cX3_play 98 = .ok (.iload_n 2, 1) := by decide +kernel
theorem dX3_play_99 : decode cX3_play 99 = .ok (.dup2, 1) := by decide +kernel
theorem dX3_play_100 : decode cX3_play 100 = .ok (.iaload, 1) := by decide +kernel
theorem dX3_play_101 : decode cX3_play 101 = .ok (.iconst 1, 1) := by decide +kernel
theorem dX3_play_102 : decode cX3_play 102 = .ok (.iadd, 1) := by decide +kernel
theorem dX3_play_103 : decode cX3_play 103 = .ok (.iastore, 1) := by decide +kernel
theorem dX3_play_104 : decode cX3_play 104 = .ok (.aload_n 0, 1) := by decide +kernel
theorem dX3_play_105 : decode cX3_play 105 = .ok (.getfield 21, 3) := by decide +kernel
theorem dX3_play_108 : decode cX3_play 108 = .ok (.iload_n 2, 1) := by decide +kernel
theorem dX3_play_109 : decode cX3_play 109 = .ok (.aaload, 1) := by decide +kernel
theorem dX3_play_110 : decode cX3_play 110 = .ok (.aload_n 0, 1) := by decide +kernel
theorem dX3_play_111 : decode cX3_play 111 = .ok (.getfield 10, 3) := by decide +kernel
theorem dX3_play_114 : decode cX3_play 114 = .ok (.invokevirtual 127, 3) := by decide +kernel
theorem dX3_play_117 : decode cX3_play 117 = .ok (.iload_n 3, 1) := by decide +kernel
theorem dX3_play_118 : decode cX3_play 118 = .ok (.ireturn, 1) := by decide +kernel
theorem dX3_tune_0 : decode cX3_tune 0 = .ok (.iload_n 1, 1) := by decide +kernel
theorem dX3_tune_1 : decode cX3_tune 1 = .ok (.invokestatic 55, 3) := by decide +kernel
theorem dX3_tune_4 : decode cX3_tune 4 = .ok (.iload_n 2, 1) := by decide +kernel
theorem dX3_tune_5 : decode cX3_tune 5 = .ok (.bipush (-120), 2) := by decide +kernel
theorem dX3_tune_7 : decode cX3_tune 7 = .ok (.if_icmp .lt 9, 3) := by decide +kernel
theorem dX3_tune_10 : decode cX3_tune 10 = .ok (.iload_n 2, 1) := by decide +kernel
theorem dX3_tune_11 : decode cX3_tune 11 = .ok (.bipush 120, 2) := by decide +kernel
theorem dX3_tune_13 : decode cX3_tune 13 = .ok (.if_icmp .le 13, 3) := by decide +kernel
theorem dX3_tune_16 : decode cX3_tune 16 = .ok (.new 75, 3) := by decide +kernel
theorem dX3_tune_19 : decode cX3_tune 19 = .ok (.dup, 1) := by decide +kernel
theorem dX3_tune_20 : decode cX3_tune 20 = .ok (.ldc 131, 2) := by decide +kernel
theorem dX3_tune_22 : decode cX3_tune 22 = .ok (.invokespecial 79, 3) := by decide +kernel
theorem dX3_tune_25 : decode cX3_tune 25 = .ok (.athrow, 1) := by decide +kernel
theorem dX3_tune_26 : decode cX3_tune 26 = .ok (.aload_n 0, 1) := by decide +kernel
theorem dX3_tune_27 : decode cX3_tune 27 = .ok (.getfield 10, 3) := by decide +kernel
theorem dX3_tune_30 : decode cX3_tune 30 = .ok (.iload_n 1, 1) := by decide +kernel
theorem dX3_tune_31 : decode cX3_tune 31 = .ok (.iload_n 2, 1) := by decide +kernel
theorem dX3_tune_32 : decode cX3_tune 32 = .ok (.invokevirtual 133, 3) := by decide +kernel
theorem dX3_tune_35 : decode cX3_tune 35 = .ok (.aload_n 0, 1) := by decide +kernel
theorem dX3_tune_36 : decode cX3_tune 36 = .ok (.getfield 10, 3) := by decide +kernel
theorem dX3_tune_39 : decode cX3_tune 39 = .ok (.getfield 137, 3) := by decide +kernel
theorem dX3_tune_42 : decode cX3_tune 42 = .ok (.iload_n 1, 1) := by decide +kernel
theorem dX3_tune_43 : decode cX3_tune 43 = .ok (.iaload, 1) := by decide +kernel
theorem dX3_tune_44 : decode cX3_tune 44 = .ok (.ireturn, 1) := by decide +kernel
theorem dX3_felt_0 : decode cX3_felt 0 = .ok (.iload_n 1, 1) := by decide +kernel
theorem dX3_felt_1 : decode cX3_felt 1 = .ok (.invokestatic 55, 3) := by decide +kernel
theorem dX3_felt_4 : decode cX3_felt 4 = .ok (.aload_n 0, 1) := by decide +kernel
theorem dX3_felt_5 : decode cX3_felt 5 = .ok (.getfield 37, 3) := by decide +kernel
theorem dX3_felt_8 : decode cX3_felt 8 = .ok (.iconst 4, 1) := by decide +kernel
theorem dX3_felt_9 : decode cX3_felt 9 = .ok (.if_icmp .ge 13, 3) := by decide +kernel
theorem dX3_felt_12 : decode cX3_felt 12 = .ok (.new 44, 3) := by decide +kernel
theorem dX3_felt_15 : decode cX3_felt 15 = .ok (.dup, 1) := by decide +kernel
theorem dX3_felt_16 : decode cX3_felt 16 = .ok (.ldc 140, 2) := by decide +kernel
theorem dX3_felt_18 : decode cX3_felt 18 = .ok (.invokespecial 48, 3) := by decide +kernel
theorem dX3_felt_21 : decode cX3_felt 21 = .ok (.athrow, 1) := by decide +kernel
theorem dX3_felt_22 : decode cX3_felt 22 = .ok (.aload_n 0, 1) := by decide +kernel
theorem dX3_felt_23 : decode cX3_felt 23 = .ok (.dup, 1) := by decide +kernel
theorem dX3_felt_24 : decode cX3_felt 24 = .ok (.getfield 37, 3) := by decide +kernel
theorem dX3_felt_27 : decode cX3_felt 27 = .ok (.iconst 4, 1) := by decide +kernel
theorem dX3_felt_28 : decode cX3_felt 28 = .ok (.isub, 1) := by decide +kernel
theorem dX3_felt_29 : decode cX3_felt 29 = .ok (.putfield 37, 3) := by decide +kernel
theorem dX3_felt_32 : decode cX3_felt 32 = .ok (.aload_n 0, 1) := by decide +kernel
theorem dX3_felt_33 : decode cX3_felt 33 = .ok (.getfield 10, 3) := by decide +kernel
theorem dX3_felt_36 : decode cX3_felt 36 = .ok (.getfield 142, 3) := by decide +kernel
theorem dX3_felt_39 : decode cX3_felt 39 = .ok (.iload_n 1, 1) := by decide +kernel
theorem dX3_felt_40 : decode cX3_felt 40 = .ok (.iaload, 1) := by decide +kernel
theorem dX3_felt_41 : decode cX3_felt 41 = .ok (.istore_n 2, 1) := by decide +kernel
theorem dX3_felt_42 : decode cX3_felt 42 = .ok (.aload_n 0, 1) := by decide +kernel
theorem dX3_felt_43 : decode cX3_felt 43 = .ok (.getfield 10, 3) := by decide +kernel
theorem dX3_felt_46 : decode cX3_felt 46 = .ok (.getfield 142, 3) := by decide +kernel
theorem dX3_felt_49 : decode cX3_felt 49 = .ok (.iload_n 1, 1) := by decide +kernel
theorem dX3_felt_50 : decode cX3_felt 50 = .ok (.iconst 0, 1) := by decide +kernel
theorem dX3_felt_51 : decode cX3_felt 51 = .ok (.iastore, 1) := by decide +kernel
theorem dX3_felt_52 : decode cX3_felt 52 = .ok (.iload_n 2, 1) := by decide +kernel
theorem dX3_felt_53 : decode cX3_felt 53 = .ok (.ireturn, 1) := by decide +kernel
theorem dX3_chase_0 : decode cX3_chase 0 = .ok (.aload_n 0, 1) := by decide +kernel
theorem dX3_chase_1 : decode cX3_chase 1 = .ok (.getfield 10, 3) := by decide +kernel
theorem dX3_chase_4 : decode cX3_chase 4 = .ok (.invokevirtual 145, 3) := by decide +kernel
theorem dX3_chase_7 : decode cX3_chase 7 = .ok (.istore_n 1, 1) := by decide +kernel
theorem dX3_chase_8 : decode cX3_chase 8 = .ok (.aload_n 0, 1) := by decide +kernel
theorem dX3_chase_9 : decode cX3_chase 9 = .ok (.getfield 10, 3) := by decide +kernel
theorem dX3_chase_12 : decode cX3_chase 12 = .ok (.invokevirtual 148, 3) := by decide +kernel
theorem dX3_chase_15 : decode cX3_chase 15 = .ok (.iload_n 1, 1) := by decide +kernel
theorem dX3_chase_16 : decode cX3_chase 16 = .ok (.ireturn, 1) := by decide +kernel
theorem dX3_pipe_0 : decode cX3_pipe 0 = .ok (.iload_n 1, 1) := by decide +kernel
theorem dX3_pipe_1 : decode cX3_pipe 1 = .ok (.invokestatic 55, 3) := by decide +kernel
theorem dX3_pipe_4 : decode cX3_pipe 4 = .ok (.iload_n 2, 1) := by decide +kernel
theorem dX3_pipe_5 : decode cX3_pipe 5 = .ok (.ifCond .lt 8, 3) := by decide +kernel
theorem dX3_pipe_8 : decode cX3_pipe 8 = .ok (.iload_n 2, 1) := by decide +kernel
theorem dX3_pipe_9 : decode cX3_pipe 9 = .ok (.iconst 5, 1) := by decide +kernel
theorem dX3_pipe_10 : decode cX3_pipe 10 = .ok (.if_icmp .lt 13, 3) := by decide +kernel
theorem dX3_pipe_13 : decode cX3_pipe 13 = .ok (.new 67, 3) := by decide +kernel
theorem dX3_pipe_16 : decode cX3_pipe 16 = .ok (.dup, 1) := by decide +kernel
theorem dX3_pipe_17 : decode cX3_pipe 17 = .ok (.ldc 151, 2) := by decide +kernel
theorem dX3_pipe_19 : decode cX3_pipe 19 = .ok (.invokespecial 71, 3) := by decide +kernel
theorem dX3_pipe_22 : decode cX3_pipe 22 = .ok (.athrow, 1) := by decide +kernel
theorem dX3_pipe_23 : decode cX3_pipe 23 = .ok (.aload_n 0, 1) := by decide +kernel
theorem dX3_pipe_24 : decode cX3_pipe 24 = .ok (.getfield 10, 3) := by decide +kernel
theorem dX3_pipe_27 : decode cX3_pipe 27 = .ok (.iload_n 1, 1) := by decide +kernel
theorem dX3_pipe_28 : decode cX3_pipe 28 = .ok (.iload_n 2, 1) := by decide +kernel
theorem dX3_pipe_29 : decode cX3_pipe 29 = .ok (.invokevirtual 153, 3) := by decide +kernel
theorem dX3_pipe_32 : decode cX3_pipe 32 = .ok (.ireturn, 1) := by decide +kernel
theorem dX3_sound_0 : decode cX3_sound 0 = .ok (.aload_n 0, 1) := by decide +kernel
theorem dX3_sound_1 : decode cX3_sound 1 = .ok (.iload_n 1, 1) := by decide +kernel
theorem dX3_sound_2 : decode cX3_sound 2 = .ok (.invokevirtual 51, 3) := by decide +kernel
theorem dX3_sound_5 : decode cX3_sound 5 = .ok (.aload_n 0, 1) := by decide +kernel
theorem dX3_sound_6 : decode cX3_sound 6 = .ok (.getfield 21, 3) := by decide +kernel
theorem dX3_sound_9 : decode cX3_sound 9 = .ok (.iload_n 1, 1) := by decide +kernel
theorem dX3_sound_10 : decode cX3_sound 10 = .ok (.aaload, 1) := by decide +kernel
theorem dX3_sound_11 : decode cX3_sound 11 = .ok (.aload_n 0, 1) := by decide +kernel
theorem dX3_sound_12 : decode cX3_sound 12 = .ok (.getfield 10, 3) := by decide +kernel
theorem dX3_sound_15 : decode cX3_sound 15 = .ok (.invokevirtual 156, 3) := by decide +kernel
theorem dX3_sound_18 : decode cX3_sound 18 = .ok (.ireturn, 1) := by decide +kernel
theorem dX3_told_0 : decode cX3_told 0 = .ok (.aload_n 0, 1) := by decide +kernel
theorem dX3_told_1 : decode cX3_told 1 = .ok (.iload_n 1, 1) := by decide +kernel
theorem dX3_told_2 : decode cX3_told 2 = .ok (.invokevirtual 94, 3) := by decide +kernel
theorem dX3_told_5 : decode cX3_told 5 = .ok (.iload_n 2, 1) := by decide +kernel
theorem dX3_told_6 : decode cX3_told 6 = .ok (.ifCond .lt 8, 3) := by decide +kernel
theorem dX3_told_9 : decode cX3_told 9 = .ok (.iload_n 2, 1) := by decide +kernel
theorem dX3_told_10 : decode cX3_told 10 = .ok (.iconst 5, 1) := by decide +kernel
theorem dX3_told_11 : decode cX3_told 11 = .ok (.if_icmp .lt 13, 3) := by decide +kernel
theorem dX3_told_14 : decode cX3_told 14 = .ok (.new 67, 3) := by decide +kernel
theorem dX3_told_17 : decode cX3_told 17 = .ok (.dup, 1) := by decide +kernel
theorem dX3_told_18 : decode cX3_told 18 = .ok (.ldc 151, 2) := by decide +kernel
theorem dX3_told_20 : decode cX3_told 20 = .ok (.invokespecial 71, 3) := by decide +kernel
theorem dX3_told_23 : decode cX3_told 23 = .ok (.athrow, 1) := by decide +kernel
theorem dX3_told_24 : decode cX3_told 24 = .ok (.aload_n 0, 1) := by decide +kernel
theorem dX3_told_25 : decode cX3_told 25 = .ok (.getfield 28, 3) := by decide +kernel
theorem dX3_told_28 : decode cX3_told 28 = .ok (.iload_n 1, 1) := by decide +kernel
theorem dX3_told_29 : decode cX3_told 29 = .ok (.aaload, 1) := by decide +kernel
theorem dX3_told_30 : decode cX3_told 30 = .ok (.iload_n 2, 1) := by decide +kernel
theorem dX3_told_31 : decode cX3_told 31 = .ok (.aload_n 0, 1) := by decide +kernel
theorem dX3_told_32 : decode cX3_told 32 = .ok (.getfield 103, 3) := by decide +kernel
theorem dX3_told_35 : decode cX3_told 35 = .ok (.invokestatic 106, 3) := by decide +kernel
theorem dX3_told_38 : decode cX3_told 38 = .ok (.invokevirtual 160, 3) := by decide +kernel
theorem dX3_told_41 : decode cX3_told 41 = .ok (.ireturn, 1) := by decide +kernel
theorem dX3_count_0 : decode cX3_count 0 = .ok (.iload_n 1, 1) := by decide +kernel
theorem dX3_count_1 : decode cX3_count 1 = .ok (.ifCond .lt 9, 3) := by decide +kernel
theorem dX3_count_4 : decode cX3_count 4 = .ok (.iload_n 1, 1) := by decide +kernel
theorem dX3_count_5 : decode cX3_count 5 = .ok (.bipush 9, 2) := by decide +kernel
theorem dX3_count_7 : decode cX3_count 7 = .ok (.if_icmp .lt 13, 3) := by decide +kernel
theorem dX3_count_10 : decode cX3_count 10 = .ok (.new 67, 3) := by decide +kernel
theorem dX3_count_13 : decode cX3_count 13 = .ok (.dup, 1) := by decide +kernel
theorem dX3_count_14 : decode cX3_count 14 = .ok (.ldc 161, 2) := by decide +kernel
theorem dX3_count_16 : decode cX3_count 16 = .ok (.invokespecial 71, 3) := by decide +kernel
theorem dX3_count_19 : decode cX3_count 19 = .ok (.athrow, 1) := by decide +kernel
theorem dX3_count_20 : decode cX3_count 20 = .ok (.aload_n 0, 1) := by decide +kernel
theorem dX3_count_21 : decode cX3_count 21 = .ok (.iload_n 1, 1) := by decide +kernel
theorem dX3_count_22 : decode cX3_count 22 = .ok (.invokevirtual 163, 3) := by decide +kernel
theorem dX3_count_25 : decode cX3_count 25 = .ok (.ireturn, 1) := by decide +kernel
theorem dX3_rest_0 : decode cX3_rest 0 = .ok (.iload_n 1, 1) := by decide +kernel
theorem dX3_rest_1 : decode cX3_rest 1 = .ok (.invokestatic 166, 3) := by decide +kernel
theorem dX3_rest_4 : decode cX3_rest 4 = .ok (.aload_n 0, 1) := by decide +kernel
theorem dX3_rest_5 : decode cX3_rest 5 = .ok (.aload_n 0, 1) := by decide +kernel
theorem dX3_rest_6 : decode cX3_rest 6 = .ok (.getfield 10, 3) := by decide +kernel
theorem dX3_rest_9 : decode cX3_rest 9 = .ok (.iload_n 1, 1) := by decide +kernel
theorem dX3_rest_10 : decode cX3_rest 10 = .ok (.invokevirtual 169, 3) := by decide +kernel
theorem dX3_rest_13 : decode cX3_rest 13 = .ok (.istore_n 2, 1) := by decide +kernel
theorem dX3_rest_14 : decode cX3_rest 14 = .ok (.iconst 0, 1) := by decide +kernel
theorem dX3_rest_15 : decode cX3_rest 15 = .ok (.istore_n 3, 1) := by decide +kernel
theorem dX3_rest_16 : decode cX3_rest 16 = .ok (.iload_n 3, 1) := by decide +kernel
theorem dX3_rest_17 : decode cX3_rest 17 = .ok (.aload_n 0, 1) := by decide +kernel
theorem dX3_rest_18 : decode cX3_rest 18 = .ok (.getfield 83, 3) := by decide +kernel
theorem dX3_rest_21 : decode cX3_rest 21 = .ok (.if_icmp .ge 18, 3) := by decide +kernel
theorem dX3_rest_24 : decode cX3_rest 24 = .ok (.aload_n 0, 1) := by decide +kernel
theorem dX3_rest_25 : decode cX3_rest 25 = .ok (.getfield 28, 3) := by decide +kernel
theorem dX3_rest_28 : decode cX3_rest 28 = .ok (.iload_n 3, 1) := by decide +kernel
theorem dX3_rest_29 : decode cX3_rest 29 = .ok (.aaload, 1) := by decide +kernel
theorem dX3_rest_30 : decode cX3_rest 30 = .ok (.invokevirtual 173, 3) := by decide +kernel
theorem dX3_rest_33 : decode cX3_rest 33 = .ok (.iinc 3 1, 3) := by decide +kernel
theorem dX3_rest_36 : decode cX3_rest 36 = .ok (.goto (-20), 3) := by decide +kernel
theorem dX3_rest_39 : decode cX3_rest 39 = .ok (.aload_n 0, 1) := by decide +kernel
theorem dX3_rest_40 : decode cX3_rest 40 = .ok (.dup, 1) := by decide +kernel
theorem dX3_rest_41 : decode cX3_rest 41 = .ok (.getfield 103, 3) := by decide +kernel
theorem dX3_rest_44 : decode cX3_rest 44 = .ok (.iload_n 1, 1) := by decide +kernel
theorem dX3_rest_45 : decode cX3_rest 45 = .ok (.iadd, 1) := by decide +kernel
theorem dX3_rest_46 : decode cX3_rest 46 = .ok (.putfield 103, 3) := by decide +kernel
theorem dX3_rest_49 : decode cX3_rest 49 = .ok (.iload_n 2, 1) := by decide +kernel
theorem dX3_rest_50 : decode cX3_rest 50 = .ok (.ireturn, 1) := by decide +kernel
theorem dX3_pays_0 : decode cX3_pays 0 = .ok (.aload_n 0, 1) := by decide +kernel
theorem dX3_pays_1 : decode cX3_pays 1 = .ok (.iload_n 1, 1) := by decide +kernel
theorem dX3_pays_2 : decode cX3_pays 2 = .ok (.invokevirtual 94, 3) := by decide +kernel
theorem dX3_pays_5 : decode cX3_pays 5 = .ok (.aload_n 0, 1) := by decide +kernel
theorem dX3_pays_6 : decode cX3_pays 6 = .ok (.iload_n 2, 1) := by decide +kernel
theorem dX3_pays_7 : decode cX3_pays 7 = .ok (.invokevirtual 51, 3) := by decide +kernel
theorem dX3_pays_10 : decode cX3_pays 10 = .ok (.aload_n 0, 1) := by decide +kernel
theorem dX3_pays_11 : decode cX3_pays 11 = .ok (.iload_n 1, 1) := by decide +kernel
theorem dX3_pays_12 : decode cX3_pays 12 = .ok (.iload_n 2, 1) := by decide +kernel
theorem dX3_pays_13 : decode cX3_pays 13 = .ok (.invokevirtual 117, 3) := by decide +kernel
theorem dX3_pays_16 : decode cX3_pays 16 = .ok (.ireturn, 1) := by decide +kernel
theorem dX3_best_0 : decode cX3_best 0 = .ok (.aload_n 0, 1) := by decide +kernel
theorem dX3_best_1 : decode cX3_best 1 = .ok (.iload_n 1, 1) := by decide +kernel
theorem dX3_best_2 : decode cX3_best 2 = .ok (.invokevirtual 94, 3) := by decide +kernel
theorem dX3_best_5 : decode cX3_best 5 = .ok (.iconst (-1), 1) := by decide +kernel
theorem dX3_best_6 : decode cX3_best 6 = .ok (.istore_n 2, 1) := by decide +kernel
theorem dX3_best_7 : decode cX3_best 7 = .ok (.iconst 0, 1) := by decide +kernel
theorem dX3_best_8 : decode cX3_best 8 = .ok (.istore_n 3, 1) := by decide +kernel
theorem dX3_best_9 : decode cX3_best 9 = .ok (.iconst 0, 1) := by decide +kernel
theorem dX3_best_10 : decode cX3_best 10 = .ok (.istore 4, 2) := by decide +kernel
theorem dX3_best_12 : decode cX3_best 12 = .ok (.iload 4, 2) := by decide +kernel
theorem dX3_best_14 : decode cX3_best 14 = .ok (.aload_n 0, 1) := by decide +kernel
theorem dX3_best_15 : decode cX3_best 15 = .ok (.getfield 41, 3) := by decide +kernel
theorem dX3_best_18 : decode cX3_best 18 = .ok (.if_icmp .ge 30, 3) := by decide +kernel
theorem dX3_best_21 : decode cX3_best 21 = .ok (.aload_n 0, 1) := by decide +kernel
theorem dX3_best_22 : decode cX3_best 22 = .ok (.iload_n 1, 1) := by decide +kernel
theorem dX3_best_23 : decode cX3_best 23 = .ok (.iload 4, 2) := by decide +kernel
theorem dX3_best_25 : decode cX3_best 25 = .ok (.invokevirtual 117, 3) := by decide +kernel
theorem dX3_best_28 : decode cX3_best 28 = .ok (.istore 5, 2) := by decide +kernel
theorem dX3_best_30 : decode cX3_best 30 = .ok (.iload 5, 2) := by decide +kernel
theorem dX3_best_32 : decode cX3_best 32 = .ok (.iload_n 3, 1) := by decide +kernel
theorem dX3_best_33 : decode cX3_best 33 = .ok (.if_icmp .le 9, 3) := by decide +kernel
theorem dX3_best_36 : decode cX3_best 36 = .ok (.iload 5, 2) := by decide +kernel
theorem dX3_best_38 : decode cX3_best 38 = .ok (.istore_n 3, 1) := by decide +kernel
theorem dX3_best_39 : decode cX3_best 39 = .ok (.iload 4, 2) := by decide +kernel
theorem dX3_best_41 : decode cX3_best 41 = .ok (.istore_n 2, 1) := by decide +kernel
theorem dX3_best_42 : decode cX3_best 42 = .ok (.iinc 4 1, 3) := by decide +kernel
theorem dX3_best_45 : decode cX3_best 45 = .ok (.goto (-33), 3) := by decide +kernel
theorem dX3_best_48 : decode cX3_best 48 = .ok (.iload_n 2, 1) := by decide +kernel
theorem dX3_best_49 : decode cX3_best 49 = .ok (.ireturn, 1) := by decide +kernel
theorem dX3_worst_0 : decode cX3_worst 0 = .ok (.aload_n 0, 1) := by decide +kernel
theorem dX3_worst_1 : decode cX3_worst 1 = .ok (.iload_n 1, 1) := by decide +kernel
theorem dX3_worst_2 : decode cX3_worst 2 = .ok (.invokevirtual 51, 3) := by decide +kernel
theorem dX3_worst_5 : decode cX3_worst 5 = .ok (.iconst (-1), 1) := by decide +kernel
theorem dX3_worst_6 : decode cX3_worst 6 = .ok (.istore_n 2, 1) := by decide +kernel
theorem dX3_worst_7 : decode cX3_worst 7 = .ok (.aload_n 0, 1) := by decide +kernel
theorem dX3_worst_8 : decode cX3_worst 8 = .ok (.getfield 21, 3) := by decide +kernel
theorem dX3_worst_11 : decode cX3_worst 11 = .ok (.iload_n 1, 1) := by decide +kernel
theorem dX3_worst_12 : decode cX3_worst 12 = .ok (.aaload, 1) := by decide +kernel
theorem dX3_worst_13 : decode cX3_worst 13 = .ok (.aload_n 0, 1) := by decide +kernel
theorem dX3_worst_14 : decode cX3_worst 14 = .ok (.getfield 10, 3) := by decide +kernel
theorem dX3_worst_17 : decode cX3_worst 17 = .ok (.invokevirtual 156, 3) := by decide +kernel
theorem dX3_worst_20 : decode cX3_worst 20 = .ok (.istore_n 3, 1) := by decide +kernel
theorem dX3_worst_21 : decode cX3_worst 21 = .ok (.iconst 0, 1) := by decide +kernel
theorem dX3_worst_22 : decode cX3_worst 22 = .ok (.istore 4, 2) := by decide +kernel
theorem dX3_worst_24 : decode cX3_worst 24 = .ok (.iload 4, 2) := by decide +kernel
theorem dX3_worst_26 : decode cX3_worst 26 = .ok (.bipush 12, 2) := by decide +kernel
theorem dX3_worst_28 : decode cX3_worst 28 = .ok (.if_icmp .ge 38, 3) := by decide +kernel
theorem dX3_worst_31 : decode cX3_worst 31 = .ok (.aload_n 0, 1) := by decide +kernel
theorem dX3_worst_32 : decode cX3_worst 32 = .ok (.getfield 21, 3) := by decide +kernel
theorem dX3_worst_35 : decode cX3_worst 35 = .ok (.iload_n 1, 1) := by decide +kernel
theorem dX3_worst_36 : decode cX3_worst 36 = .ok (.aaload, 1) := by decide +kernel
theorem dX3_worst_37 : decode cX3_worst 37 = .ok (.aload_n 0, 1) := by decide +kernel
theorem dX3_worst_38 : decode cX3_worst 38 = .ok (.getfield 10, 3) := by decide +kernel
theorem dX3_worst_41 : decode cX3_worst 41 = .ok (.iload 4, 2) := by decide +kernel
theorem dX3_worst_43 : decode cX3_worst 43 = .ok (.invokevirtual 176, 3) := by decide +kernel
theorem dX3_worst_46 : decode cX3_worst 46 = .ok (.istore 5, 2) := by decide +kernel
theorem dX3_worst_48 : decode cX3_worst 48 = .ok (.iload 5, 2) := by decide +kernel
theorem dX3_worst_50 : decode cX3_worst 50 = .ok (.iload_n 3, 1) := by decide +kernel
theorem dX3_worst_51 : decode cX3_worst 51 = .ok (.if_icmp .le 9, 3) := by decide +kernel
theorem dX3_worst_54 : decode cX3_worst 54 = .ok (.iload 5, 2) := by decide +kernel
theorem dX3_worst_56 : decode cX3_worst 56 = .ok (.istore_n 3, 1) := by decide +kernel
theorem dX3_worst_57 : decode cX3_worst 57 = .ok (.iload 4, 2) := by decide +kernel
theorem dX3_worst_59 : decode cX3_worst 59 = .ok (.istore_n 2, 1) := by decide +kernel
theorem dX3_worst_60 : decode cX3_worst 60 = .ok (.iinc 4 1, 3) := by decide +kernel
theorem dX3_worst_63 : decode cX3_worst 63 = .ok (.goto (-39), 3) := by decide +kernel
theorem dX3_worst_66 : decode cX3_worst 66 = .ok (.iload_n 2, 1) := by decide +kernel
theorem dX3_worst_67 : decode cX3_worst 67 = .ok (.ireturn, 1) := by decide +kernel
theorem dX3_foresee_0 : decode cX3_foresee 0 = .ok (.iload_n 1, 1) := by decide +kernel
theorem dX3_foresee_1 : decode cX3_foresee 1 = .ok (.invokestatic 166, 3) := by decide +kernel
theorem dX3_foresee_4 : decode cX3_foresee 4 = .ok (.iload_n 2, 1) := by decide +kernel
theorem dX3_foresee_5 : decode cX3_foresee 5 = .ok (.iconst 5, 1) := by decide +kernel
theorem dX3_foresee_6 : decode cX3_foresee 6 = .ok (.if_icmp .lt 9, 3) := by decide +kernel
theorem dX3_foresee_9 : decode cX3_foresee 9 = .ok (.iload_n 2, 1) := by decide +kernel
theorem dX3_foresee_10 : decode cX3_foresee 10 = .ok (.bipush 7, 2) := by decide +kernel
theorem dX3_foresee_12 : decode cX3_foresee 12 = .ok (.if_icmp .le 13, 3) := by decide +kernel
theorem dX3_foresee_15 : decode cX3_foresee 15 = .ok (.new 67, 3) := by decide +kernel
theorem dX3_foresee_18 : decode cX3_foresee 18 = .ok (.dup, 1) := by decide +kernel
theorem dX3_foresee_19 : decode cX3_foresee 19 = .ok (.ldc 179, 2) := by decide +kernel
theorem dX3_foresee_21 : decode cX3_foresee 21 = .ok (.invokespecial 71, 3) := by decide +kernel
theorem dX3_foresee_24 : decode cX3_foresee 24 = .ok (.athrow, 1) := by decide +kernel
theorem dX3_foresee_25 : decode cX3_foresee 25 = .ok (.aload_n 0, 1) := by decide +kernel
theorem dX3_foresee_26 : decode cX3_foresee 26 = .ok (.getfield 16, 3) := by decide +kernel
theorem dX3_foresee_29 : decode cX3_foresee 29 = .ok (.aload_n 0, 1) := by decide +kernel
theorem dX3_foresee_30 : decode cX3_foresee 30 = .ok (.getfield 10, 3) := by decide +kernel
theorem dX3_foresee_33 : decode cX3_foresee 33 = .ok (.invokevirtual 181, 3) := by decide +kernel
theorem dX3_foresee_36 : decode cX3_foresee 36 = .ok (.aload_n 0, 1) := by decide +kernel
theorem dX3_foresee_37 : decode cX3_foresee 37 = .ok (.aload_n 0, 1) := by decide +kernel
theorem dX3_foresee_38 : decode cX3_foresee 38 = .ok (.getfield 16, 3) := by decide +kernel
theorem dX3_foresee_41 : decode cX3_foresee 41 = .ok (.iload_n 1, 1) := by decide +kernel
theorem dX3_foresee_42 : decode cX3_foresee 42 = .ok (.invokevirtual 169, 3) := by decide +kernel
theorem dX3_foresee_45 : decode cX3_foresee 45 = .ok (.pop, 1) := by decide +kernel
theorem dX3_foresee_46 : decode cX3_foresee 46 = .ok (.aload_n 0, 1) := by decide +kernel
theorem dX3_foresee_47 : decode cX3_foresee 47 = .ok (.getfield 16, 3) := by decide +kernel
theorem dX3_foresee_50 : decode cX3_foresee 50 = .ok (.iload_n 2, 1) := by decide +kernel
theorem dX3_foresee_51 : decode cX3_foresee 51 = .ok (.invokevirtual 184, 3) := by decide +kernel
theorem dX3_foresee_54 : decode cX3_foresee 54 = .ok (.ireturn, 1) := by decide +kernel
theorem dX3_lasts_0 : decode cX3_lasts 0 = .ok (.aload_n 0, 1) := by decide +kernel
theorem dX3_lasts_1 : decode cX3_lasts 1 = .ok (.iload_n 1, 1) := by decide +kernel
theorem dX3_lasts_2 : decode cX3_lasts 2 = .ok (.invokevirtual 51, 3) := by decide +kernel
theorem dX3_lasts_5 : decode cX3_lasts 5 = .ok (.aload_n 0, 1) := by decide +kernel
theorem dX3_lasts_6 : decode cX3_lasts 6 = .ok (.getfield 16, 3) := by decide +kernel
theorem dX3_lasts_9 : decode cX3_lasts 9 = .ok (.aload_n 0, 1) := by decide +kernel
theorem dX3_lasts_10 : decode cX3_lasts 10 = .ok (.getfield 10, 3) := by decide +kernel
theorem dX3_lasts_13 : decode cX3_lasts 13 = .ok (.invokevirtual 181, 3) := by decide +kernel
theorem dX3_lasts_16 : decode cX3_lasts 16 = .ok (.iconst 0, 1) := by decide +kernel
theorem dX3_lasts_17 : decode cX3_lasts 17 = .ok (.istore_n 2, 1) := by decide +kernel
theorem dX3_lasts_18 : decode cX3_lasts 18 = .ok (.iload_n 2, 1) := by decide +kernel
theorem dX3_lasts_19 : decode cX3_lasts 19 = .ok (.bipush 99, 2) := by decide +kernel
theorem dX3_lasts_21 : decode cX3_lasts 21 = .ok (.if_icmp .ge 40, 3) := by decide +kernel
theorem dX3_lasts_24 : decode cX3_lasts 24 = .ok (.aload_n 0, 1) := by decide +kernel
theorem dX3_lasts_25 : decode cX3_lasts 25 = .ok (.getfield 21, 3) := by decide +kernel
theorem dX3_lasts_28 : decode cX3_lasts 28 = .ok (.iload_n 1, 1) := by decide +kernel
theorem dX3_lasts_29 : decode cX3_lasts 29 = .ok (.aaload, 1) := by decide +kernel
theorem dX3_lasts_30 : decode cX3_lasts 30 = .ok (.aload_n 0, 1) := by decide +kernel
theorem dX3_lasts_31 : decode cX3_lasts 31 = .ok (.getfield 16, 3) := by decide +kernel
theorem dX3_lasts_34 : decode cX3_lasts 34 = .ok (.invokevirtual 156, 3) := by decide +kernel
theorem dX3_lasts_37 : decode cX3_lasts 37 = .ok (.bipush 30, 2) := by decide +kernel
theorem dX3_lasts_39 : decode cX3_lasts 39 = .ok (.if_icmp .lt 22, 3) := by decide +kernel
theorem dX3_lasts_42 : decode cX3_lasts 42 = .ok (.aload_n 0, 1) := by decide +kernel
theorem dX3_lasts_43 : decode cX3_lasts 43 = .ok (.getfield 21, 3) := by decide +kernel
theorem dX3_lasts_46 : decode cX3_lasts 46 = .ok (.iload_n 1, 1) := by decide +kernel
theorem dX3_lasts_47 : decode cX3_lasts 47 = .ok (.aaload, 1) := by decide +kernel
theorem dX3_lasts_48 : decode cX3_lasts 48 = .ok (.aload_n 0, 1) := by decide +kernel
theorem dX3_lasts_49 : decode cX3_lasts 49 = .ok (.getfield 16, 3) := by decide +kernel
theorem dX3_lasts_52 : decode cX3_lasts 52 = .ok (.invokevirtual 127, 3) := by decide +kernel
theorem dX3_lasts_55 : decode cX3_lasts 55 = .ok (.iinc 2 1, 3) := by decide +kernel
theorem dX3_lasts_58 : decode cX3_lasts 58 = .ok (.goto (-40), 3) := by decide +kernel
theorem dX3_lasts_61 : decode cX3_lasts 61 = .ok (.iload_n 2, 1) := by decide +kernel
theorem dX3_lasts_62 : decode cX3_lasts 62 = .ok (.ireturn, 1) := by decide +kernel
theorem dX3_mean_0 : decode cX3_mean 0 = .ok (.aload_n 0, 1) := by decide +kernel
theorem dX3_mean_1 : decode cX3_mean 1 = .ok (.getfield 41, 3) := by decide +kernel
theorem dX3_mean_4 : decode cX3_mean 4 = .ok (.ifCond .ne 5, 3) := by decide +kernel
theorem dX3_mean_7 : decode cX3_mean 7 = .ok (.dconst 0, 1) := by decide +kernel
theorem dX3_mean_8 : decode cX3_mean 8 = .ok (.dreturn, 1) := by decide +kernel
theorem dX3_mean_9 : decode cX3_mean 9 = .ok (.iconst 0, 1) := by decide +kernel
theorem dX3_mean_10 : decode cX3_mean 10 = .ok (.istore_n 1, 1) := by decide +kernel
theorem dX3_mean_11 : decode cX3_mean 11 = .ok (.iconst 0, 1) := by decide +kernel
theorem dX3_mean_12 : decode cX3_mean 12 = .ok (.istore_n 2, 1) := by decide +kernel
theorem dX3_mean_13 : decode cX3_mean 13 = .ok (.iload_n 2, 1) := by decide +kernel
theorem dX3_mean_14 : decode cX3_mean 14 = .ok (.aload_n 0, 1) := by decide +kernel
theorem dX3_mean_15 : decode cX3_mean 15 = .ok (.getfield 41, 3) := by decide +kernel
theorem dX3_mean_18 : decode cX3_mean 18 = .ok (.if_icmp .ge 25, 3) := by decide +kernel
theorem dX3_mean_21 : decode cX3_mean 21 = .ok (.iload_n 1, 1) := by decide +kernel
theorem dX3_mean_22 : decode cX3_mean 22 = .ok (.aload_n 0, 1) := by decide +kernel
theorem dX3_mean_23 : decode cX3_mean 23 = .ok (.getfield 21, 3) := by decide +kernel
theorem dX3_mean_26 : decode cX3_mean 26 = .ok (.iload_n 2, 1) := by decide +kernel
theorem dX3_mean_27 : decode cX3_mean 27 = .ok (.aaload, 1) := by decide +kernel
theorem dX3_mean_28 : decode cX3_mean 28 = .ok (.aload_n 0, 1) := by decide +kernel
theorem dX3_mean_29 : decode cX3_mean 29 = .ok (.getfield 10, 3) := by decide +kernel
theorem dX3_mean_32 : decode cX3_mean 32 = .ok (.invokevirtual 156, 3) := by decide +kernel
theorem dX3_mean_35 : decode cX3_mean 35 = .ok (.iadd, 1) := by decide +kernel
theorem dX3_mean_36 : decode cX3_mean 36 = .ok (.istore_n 1, 1) := by decide +kernel
theorem dX3_mean_37 : decode cX3_mean 37 = .ok (.iinc 2 1, 3) := by decide +kernel
theorem dX3_mean_40 : decode cX3_mean 40 = .ok (.goto (-27), 3) := by decide +kernel
theorem dX3_mean_43 : decode cX3_mean 43 = .ok (.iload_n 1, 1) := by decide +kernel
theorem dX3_mean_44 : decode cX3_mean 44 = .ok (.i2d, 1) := by decide +kernel
theorem dX3_mean_45 : decode cX3_mean 45 = .ok (.aload_n 0, 1) := by decide +kernel
theorem dX3_mean_46 : decode cX3_mean 46 = .ok (.getfield 41, 3) := by decide +kernel
theorem dX3_mean_49 : decode cX3_mean 49 = .ok (.i2d, 1) := by decide +kernel
theorem dX3_mean_50 : decode cX3_mean 50 = .ok (.ddiv, 1) := by decide +kernel
theorem dX3_mean_51 : decode cX3_mean 51 = .ok (.dreturn, 1) := by decide +kernel
theorem dX3_digest_0 : decode cX3_digest 0 = .ok (.ldc2_w 187, 3) := by decide +kernel
theorem dX3_digest_3 : decode cX3_digest 3 = .ok (.lstore_n 1, 1) := by decide +kernel
theorem dX3_digest_4 : decode cX3_digest 4 = .ok (.iconst 0, 1) := by decide +kernel
theorem dX3_digest_5 : decode cX3_digest 5 = .ok (.istore_n 3, 1) := by decide +kernel
theorem dX3_digest_6 : decode cX3_digest 6 = .ok (.iload_n 3, 1) := by decide +kernel
theorem dX3_digest_7 : decode cX3_digest 7 = .ok (.bipush 9, 2) := by decide +kernel
theorem dX3_digest_9 : decode cX3_digest 9 = .ok (.if_icmp .ge 19, 3) := by decide +kernel
theorem dX3_digest_12 : decode cX3_digest 12 = .ok (.lload_n 1, 1) := by decide +kernel
theorem dX3_digest_13 : decode cX3_digest 13 = .ok (.aload_n 0, 1) := by decide +kernel
theorem dX3_digest_14 : decode cX3_digest 14 = .ok (.iload_n 3, 1) := by decide +kernel
theorem dX3_digest_15 : decode cX3_digest 15 = .ok (.invokevirtual 163, 3) := by decide +kernel
theorem dX3_digest_18 : decode cX3_digest 18 = .ok (.invokestatic 189, 3) := by decide +kernel
theorem dX3_digest_21 : decode cX3_digest 21 = .ok (.lstore_n 1, 1) := by decide +kernel
theorem dX3_digest_22 : decode cX3_digest 22 = .ok (.iinc 3 1, 3) := by decide +kernel
theorem dX3_digest_25 : decode cX3_digest 25 = .ok (.goto (-19), 3) := by decide +kernel
theorem dX3_digest_28 : decode cX3_digest 28 = .ok (.iconst 0, 1) := by decide +kernel
theorem dX3_digest_29 : decode cX3_digest 29 = .ok (.istore_n 3, 1) := by decide +kernel
theorem dX3_digest_30 : decode cX3_digest 30 = .ok (.iload_n 3, 1) := by decide +kernel
theorem dX3_digest_31 : decode cX3_digest 31 = .ok (.bipush 12, 2) := by decide +kernel
theorem dX3_digest_33 : decode cX3_digest 33 = .ok (.if_icmp .ge 39, 3) := by decide +kernel
theorem dX3_digest_36 : decode cX3_digest 36 = .ok (.iconst 0, 1) := by decide +kernel
theorem dX3_digest_37 : decode cX3_digest 37 = .ok (.istore 4, 2) := by decide +kernel
theorem dX3_digest_39 : decode cX3_digest 39 = .ok (.iload 4, 2) := by decide +kernel
theorem dX3_digest_41 : decode cX3_digest 41 = .ok (.iconst 5, 1) := by decide +kernel
theorem dX3_digest_42 : decode cX3_digest 42 = .ok (.if_icmp .ge 24, 3) := by decide +kernel
theorem dX3_digest_45 : decode cX3_digest 45 = .ok (.lload_n 1, 1) := by decide +kernel
theorem dX3_digest_46 : decode cX3_digest 46 = .ok (.aload_n 0, 1) := by decide +kernel
theorem dX3_digest_47 : decode cX3_digest 47 = .ok (.getfield 10, 3) := by decide +kernel
theorem dX3_digest_50 : decode cX3_digest 50 = .ok (.iload_n 3, 1) := by decide +kernel
theorem dX3_digest_51 : decode cX3_digest 51 = .ok (.iload 4, 2) := by decide +kernel
theorem dX3_digest_53 : decode cX3_digest 53 = .ok (.invokevirtual 153, 3) := by decide +kernel
theorem dX3_digest_56 : decode cX3_digest 56 = .ok (.invokestatic 189, 3) := by decide +kernel
theorem dX3_digest_59 : decode cX3_digest 59 = .ok (.lstore_n 1, 1) := by decide +kernel
theorem dX3_digest_60 : decode cX3_digest 60 = .ok (.iinc 4 1, 3) := by decide +kernel
theorem dX3_digest_63 : decode cX3_digest 63 = .ok (.goto (-24), 3) := by decide +kernel
theorem dX3_digest_66 : decode cX3_digest 66 = .ok (.iinc 3 1, 3) := by decide +kernel
theorem dX3_digest_69 : decode cX3_digest 69 = .ok (.goto (-39), 3) := by decide +kernel
theorem dX3_digest_72 : decode cX3_digest 72 = .ok (.iconst 0, 1) := by decide +kernel
theorem dX3_digest_73 : decode cX3_digest 73 = .ok (.istore_n 3, 1) := by decide +kernel
theorem dX3_digest_74 : decode cX3_digest 74 = .ok (.iload_n 3, 1) := by decide +kernel
theorem dX3_digest_75 : decode cX3_digest 75 = .ok (.bipush 7, 2) := by decide +kernel
theorem dX3_digest_77 : decode cX3_digest 77 = .ok (.if_icmp .ge 20, 3) := by decide +kernel
theorem dX3_digest_80 : decode cX3_digest 80 = .ok (.lload_n 1, 1) := by decide +kernel
theorem dX3_digest_81 : decode cX3_digest 81 = .ok (.aload_n 0, 1) := by decide +kernel
theorem dX3_digest_82 : decode cX3_digest 82 = .ok (.getfield 33, 3) := by decide +kernel
theorem dX3_digest_85 : decode cX3_digest 85 = .ok (.iload_n 3, 1) := by decide +kernel
theorem dX3_digest_86 : decode cX3_digest 86 = .ok (.iaload, 1) := by decide +kernel
theorem dX3_digest_87 : decode cX3_digest 87 = .ok (.invokestatic 189, 3) := by decide +kernel
theorem dX3_digest_90 : decode cX3_digest 90 = .ok (.lstore_n 1, 1) := by decide +kernel
theorem dX3_digest_91 : decode cX3_digest 91 = .ok (.iinc 3 1, 3) := by decide +kernel
theorem dX3_digest_94 : decode cX3_digest 94 = .ok (.goto (-20), 3) := by decide +kernel
theorem dX3_digest_97 : decode cX3_digest 97 = .ok (.iconst 0, 1) := by decide +kernel
theorem dX3_digest_98 : decode cX3_digest 98 = .ok (.istore_n 3, 1) := by decide +kernel
theorem dX3_digest_99 : decode cX3_digest 99 = .ok (.iload_n 3, 1) := by decide +kernel
theorem dX3_digest_100 : decode cX3_digest 100 = .ok (.aload_n 0, 1) := by decide +kernel
theorem dX3_digest_101 : decode cX3_digest 101 = .ok (.getfield 41, 3) := by decide +kernel
theorem dX3_digest_104 : decode cX3_digest 104 = .ok (.if_icmp .ge 21, 3) := by decide +kernel
theorem dX3_digest_107 : decode cX3_digest 107 = .ok (.aload_n 0, 1) := by decide +kernel
theorem dX3_digest_108 : decode cX3_digest 108 = .ok (.lload_n 1, 1) := by decide +kernel
theorem dX3_digest_109 : decode cX3_digest 109 = .ok (.aload_n 0, 1) := by decide +kernel
theorem dX3_digest_110 : decode cX3_digest 110 = .ok (.getfield 21, 3) := by decide +kernel
theorem dX3_digest_113 : decode cX3_digest 113 = .ok (.iload_n 3, 1) := by decide +kernel
theorem dX3_digest_114 : decode cX3_digest 114 = .ok (.aaload, 1) := by decide +kernel
theorem dX3_digest_115 : decode cX3_digest 115 = .ok (.invokevirtual 193, 3) := by decide +kernel
theorem dX3_digest_118 : decode cX3_digest 118 = .ok (.lstore_n 1, 1) := by decide +kernel
theorem dX3_digest_119 : decode cX3_digest 119 = .ok (.iinc 3 1, 3) := by decide +kernel
theorem dX3_digest_122 : decode cX3_digest 122 = .ok (.goto (-23), 3) := by decide +kernel
theorem dX3_digest_125 : decode cX3_digest 125 = .ok (.iconst 0, 1) := by decide +kernel
theorem dX3_digest_126 : decode cX3_digest 126 = .ok (.istore_n 3, 1) := by decide +kernel
theorem dX3_digest_127 : decode cX3_digest 127 = .ok (.iload_n 3, 1) := by decide +kernel
theorem dX3_digest_128 : decode cX3_digest 128 = .ok (.aload_n 0, 1) := by decide +kernel
theorem dX3_digest_129 : decode cX3_digest 129 = .ok (.getfield 83, 3) := by decide +kernel
theorem dX3_digest_132 : decode cX3_digest 132 = .ok (.if_icmp .ge 16, 3) := by decide +kernel
theorem dX3_digest_135 : decode cX3_digest 135 = .ok (.aload_n 0, 1) := by decide +kernel
theorem dX3_digest_136 : decode cX3_digest 136 = .ok (.lload_n 1, 1) := by decide +kernel
theorem dX3_digest_137 : decode cX3_digest 137 = .ok (.iload_n 3, 1) := by decide +kernel
theorem dX3_digest_138 : decode cX3_digest 138 = .ok (.invokevirtual 197, 3) := by decide +kernel
theorem dX3_digest_141 : decode cX3_digest 141 = .ok (.lstore_n 1, 1) := by decide +kernel
theorem dX3_digest_142 : decode cX3_digest 142 = .ok (.iinc 3 1, 3) := by decide +kernel
theorem dX3_digest_145 : decode cX3_digest 145 = .ok (.goto (-18), 3) := by decide +kernel
theorem dX3_digest_148 : decode cX3_digest 148 = .ok (.lload_n 1, 1) := by decide +kernel
theorem dX3_digest_149 : decode cX3_digest 149 = .ok (.lreturn, 1) := by decide +kernel
theorem dX3_checkTune_0 : decode cX3_checkTune 0 = .ok (.iload_n 1, 1) := by decide +kernel
theorem dX3_checkTune_1 : decode cX3_checkTune 1 = .ok (.ifCond .lt 11, 3) := by decide +kernel
theorem dX3_checkTune_4 : decode cX3_checkTune 4 = .ok (.iload_n 1, 1) := by decide +kernel
theorem dX3_checkTune_5 : decode cX3_checkTune 5 = .ok (.aload_n 0, 1) := by decide +kernel
theorem dX3_checkTune_6 : decode cX3_checkTune 6 = .ok (.getfield 41, 3) := by decide +kernel
theorem dX3_checkTune_9 : decode cX3_checkTune 9 = .ok (.if_icmp .lt 13, 3) := by decide +kernel
theorem dX3_checkTune_12 : decode cX3_checkTune 12 = .ok (.new 67, 3) := by decide +kernel
theorem dX3_checkTune_15 : decode cX3_checkTune 15 = .ok (.dup, 1) := by decide +kernel
theorem dX3_checkTune_16 : decode cX3_checkTune 16 = .ok (.ldc 200, 2) := by decide +kernel
theorem dX3_checkTune_18 : decode cX3_checkTune 18 = .ok (.invokespecial 71, 3) := by decide +kernel
theorem dX3_checkTune_21 : decode cX3_checkTune 21 = .ok (.athrow, 1) := by decide +kernel
theorem dX3_checkTune_22 : decode cX3_checkTune 22 = .ok (.return_, 1) := by decide +kernel
theorem dX3_checkStreet_0 : decode cX3_checkStreet 0 = .ok (.iload_n 1, 1) := by decide +kernel
theorem dX3_checkStreet_1 : decode cX3_checkStreet 1 = .ok (.ifCond .lt 11, 3) := by decide +kernel
theorem dX3_checkStreet_4 : decode cX3_checkStreet 4 = .ok (.iload_n 1, 1) := by decide +kernel
theorem dX3_checkStreet_5 : decode cX3_checkStreet 5 = .ok (.aload_n 0, 1) := by decide +kernel
theorem dX3_checkStreet_6 : decode cX3_checkStreet 6 = .ok (.getfield 83, 3) := by decide +kernel
theorem dX3_checkStreet_9 : decode cX3_checkStreet 9 = .ok (.if_icmp .lt 13, 3) := by decide +kernel
theorem dX3_checkStreet_12 : decode cX3_checkStreet 12 = .ok (.new 67, 3) := by decide +kernel
theorem dX3_checkStreet_15 : decode cX3_checkStreet 15 = .ok (.dup, 1) := by decide +kernel
theorem dX3_checkStreet_16 : decode cX3_checkStreet 16 = .ok (.ldc 202, 2) := by decide +kernel
theorem dX3_checkStreet_18 : decode cX3_checkStreet 18 = .ok (.invokespecial 71, 3) := by decide +kernel
theorem dX3_checkStreet_21 : decode cX3_checkStreet 21 = .ok (.athrow, 1) := by decide +kernel
theorem dX3_checkStreet_22 : decode cX3_checkStreet 22 = .ok (.return_, 1) := by decide +kernel
theorem dX3_checkPipe_0 : decode cX3_checkPipe 0 = .ok (.iload_n 0, 1) := by decide +kernel
theorem dX3_checkPipe_1 : decode cX3_checkPipe 1 = .ok (.ifCond .lt 9, 3) := by decide +kernel
theorem dX3_checkPipe_4 : decode cX3_checkPipe 4 = .ok (.iload_n 0, 1) := by decide +kernel
theorem dX3_checkPipe_5 : decode cX3_checkPipe 5 = .ok (.bipush 12, 2) := by decide +kernel
theorem dX3_checkPipe_7 : decode cX3_checkPipe 7 = .ok (.if_icmp .lt 13, 3) := by decide +kernel
theorem dX3_checkPipe_10 : decode cX3_checkPipe 10 = .ok (.new 67, 3) := by decide +kernel
theorem dX3_checkPipe_13 : decode cX3_checkPipe 13 = .ok (.dup, 1) := by decide +kernel
theorem dX3_checkPipe_14 : decode cX3_checkPipe 14 = .ok (.ldc 204, 2) := by decide +kernel
theorem dX3_checkPipe_16 : decode cX3_checkPipe 16 = .ok (.invokespecial 71, 3) := by decide +kernel
theorem dX3_checkPipe_19 : decode cX3_checkPipe 19 = .ok (.athrow, 1) := by decide +kernel
theorem dX3_checkPipe_20 : decode cX3_checkPipe 20 = .ok (.return_, 1) := by decide +kernel
theorem dX3_checkPermits_0 : decode cX3_checkPermits 0 = .ok (.iload_n 0, 1) := by decide +kernel
theorem dX3_checkPermits_1 : decode cX3_checkPermits 1 = .ok (.ifCond .lt 9, 3) := by decide +kernel
theorem dX3_checkPermits_4 : decode cX3_checkPermits 4 = .ok (.iload_n 0, 1) := by decide +kernel
theorem dX3_checkPermits_5 : decode cX3_checkPermits 5 = .ok (.bipush 127, 2) := by decide +kernel
theorem dX3_checkPermits_7 : decode cX3_checkPermits 7 = .ok (.if_icmp .le 13, 3) := by decide +kernel
theorem dX3_checkPermits_10 : decode cX3_checkPermits 10 = .ok (.new 75, 3) := by decide +kernel
theorem dX3_checkPermits_13 : decode cX3_checkPermits 13 = .ok (.dup, 1) := by decide +kernel
theorem dX3_checkPermits_14 : decode cX3_checkPermits 14 = .ok (.ldc 206, 2) := by decide +kernel
theorem dX3_checkPermits_16 : decode cX3_checkPermits 16 = .ok (.invokespecial 79, 3) := by decide +kernel
theorem dX3_checkPermits_19 : decode cX3_checkPermits 19 = .ok (.athrow, 1) := by decide +kernel
theorem dX3_checkPermits_20 : decode cX3_checkPermits 20 = .ok (.return_, 1) := by decide +kernel
theorem dX3_checkNights_0 : decode cX3_checkNights 0 = .ok (.iload_n 0, 1) := by decide +kernel
theorem dX3_checkNights_1 : decode cX3_checkNights 1 = .ok (.iconst 1, 1) := by decide +kernel
theorem dX3_checkNights_2 : decode cX3_checkNights 2 = .ok (.if_icmp .lt 9, 3) := by decide +kernel
theorem dX3_checkNights_5 : decode cX3_checkNights 5 = .ok (.iload_n 0, 1) := by decide +kernel
theorem dX3_checkNights_6 : decode cX3_checkNights 6 = .ok (.bipush 60, 2) := by decide +kernel
theorem dX3_checkNights_8 : decode cX3_checkNights 8 = .ok (.if_icmp .le 13, 3) := by decide +kernel
theorem dX3_checkNights_11 : decode cX3_checkNights 11 = .ok (.new 75, 3) := by decide +kernel
theorem dX3_checkNights_14 : decode cX3_checkNights 14 = .ok (.dup, 1) := by decide +kernel
theorem dX3_checkNights_15 : decode cX3_checkNights 15 = .ok (.ldc 208, 2) := by decide +kernel
theorem dX3_checkNights_17 : decode cX3_checkNights 17 = .ok (.invokespecial 79, 3) := by decide +kernel
theorem dX3_checkNights_20 : decode cX3_checkNights 20 = .ok (.athrow, 1) := by decide +kernel
theorem dX3_checkNights_21 : decode cX3_checkNights 21 = .ok (.return_, 1) := by decide +kernel
theorem dX3_weekdayOf_0 : decode cX3_weekdayOf 0 = .ok (.iload_n 0, 1) := by decide +kernel
theorem dX3_weekdayOf_1 : decode cX3_weekdayOf 1 = .ok (.bipush 7, 2) := by decide +kernel
theorem dX3_weekdayOf_3 : decode cX3_weekdayOf 3 = .ok (.invokestatic 210, 3) := by decide +kernel
theorem dX3_weekdayOf_6 : decode cX3_weekdayOf 6 = .ok (.ireturn, 1) := by decide +kernel
theorem dX3_payNow_0 : decode cX3_payNow 0 = .ok (.aload_n 0, 1) := by decide +kernel
theorem dX3_payNow_1 : decode cX3_payNow 1 = .ok (.getfield 28, 3) := by decide +kernel
theorem dX3_payNow_4 : decode cX3_payNow 4 = .ok (.iload_n 1, 1) := by decide +kernel
theorem dX3_payNow_5 : decode cX3_payNow 5 = .ok (.aaload, 1) := by decide +kernel
theorem dX3_payNow_6 : decode cX3_payNow 6 = .ok (.iload_n 2, 1) := by decide +kernel
theorem dX3_payNow_7 : decode cX3_payNow 7 = .ok (.aload_n 0, 1) := by decide +kernel
theorem dX3_payNow_8 : decode cX3_payNow 8 = .ok (.getfield 21, 3) := by decide +kernel
theorem dX3_payNow_11 : decode cX3_payNow 11 = .ok (.iload_n 2, 1) := by decide +kernel
theorem dX3_payNow_12 : decode cX3_payNow 12 = .ok (.aaload, 1) := by decide +kernel
theorem dX3_payNow_13 : decode cX3_payNow 13 = .ok (.aload_n 0, 1) := by decide +kernel
theorem dX3_payNow_14 : decode cX3_payNow 14 = .ok (.getfield 10, 3) := by decide +kernel
theorem dX3_payNow_17 : decode cX3_payNow 17 = .ok (.invokevirtual 156, 3) := by decide +kernel
theorem dX3_payNow_20 : decode cX3_payNow 20 = .ok (.invokevirtual 215, 3) := by decide +kernel
theorem dX3_payNow_23 : decode cX3_payNow 23 = .ok (.ireturn, 1) := by decide +kernel
theorem dX3_payFine_0 : decode cX3_payFine 0 = .ok (.bipush 10, 2) := by decide +kernel
theorem dX3_payFine_2 : decode cX3_payFine 2 = .ok (.aload_n 0, 1) := by decide +kernel
theorem dX3_payFine_3 : decode cX3_payFine 3 = .ok (.getfield 37, 3) := by decide +kernel
theorem dX3_payFine_6 : decode cX3_payFine 6 = .ok (.invokestatic 218, 3) := by decide +kernel
theorem dX3_payFine_9 : decode cX3_payFine 9 = .ok (.istore_n 1, 1) := by decide +kernel
theorem dX3_payFine_10 : decode cX3_payFine 10 = .ok (.aload_n 0, 1) := by decide +kernel
theorem dX3_payFine_11 : decode cX3_payFine 11 = .ok (.dup, 1) := by decide +kernel
theorem dX3_payFine_12 : decode cX3_payFine 12 = .ok (.getfield 37, 3) := by decide +kernel
theorem dX3_payFine_15 : decode cX3_payFine 15 = .ok (.iload_n 1, 1) := by decide +kernel
theorem dX3_payFine_16 : decode cX3_payFine 16 = .ok (.isub, 1) := by decide +kernel
theorem dX3_payFine_17 : decode cX3_payFine 17 = .ok (.putfield 37, 3) := by decide +kernel
theorem dX3_payFine_20 : decode cX3_payFine 20 = .ok (.aload_n 0, 1) := by decide +kernel
theorem dX3_payFine_21 : decode cX3_payFine 21 = .ok (.dup, 1) := by decide +kernel
theorem dX3_payFine_22 : decode cX3_payFine 22 = .ok (.getfield 221, 3) := by decide +kernel
theorem dX3_payFine_25 : decode cX3_payFine 25 = .ok (.iload_n 1, 1) := by decide +kernel
theorem dX3_payFine_26 : decode cX3_payFine 26 = .ok (.iadd, 1) := by decide +kernel
theorem dX3_payFine_27 : decode cX3_payFine 27 = .ok (.putfield 221, 3) := by decide +kernel
theorem dX3_payFine_30 : decode cX3_payFine 30 = .ok (.iload_n 1, 1) := by decide +kernel
theorem dX3_payFine_31 : decode cX3_payFine 31 = .ok (.ireturn, 1) := by decide +kernel
theorem dX3_passNights_0 : decode cX3_passNights 0 = .ok (.iconst 0, 1) := by decide +kernel
theorem dX3_passNights_1 : decode cX3_passNights 1 = .ok (.istore_n 3, 1) := by decide +kernel
theorem dX3_passNights_2 : decode cX3_passNights 2 = .ok (.iconst 0, 1) := by decide +kernel
theorem dX3_passNights_3 : decode cX3_passNights 3 = .ok (.istore 4, 2) := by decide +kernel
theorem dX3_passNights_5 : decode cX3_passNights 5 = .ok (.iload 4, 2) := by decide +kernel
theorem dX3_passNights_7 : decode cX3_passNights 7 = .ok (.iload_n 2, 1) := by decide +kernel
theorem dX3_passNights_8 : decode cX3_passNights 8 = .ok (.if_icmp .ge 31, 3) := by decide +kernel
theorem dX3_passNights_11 : decode cX3_passNights 11 = .ok (.iload_n 3, 1) := by decide +kernel
theorem dX3_passNights_12 : decode cX3_passNights 12 = .ok (.aload_n 1, 1) := by decide +kernel
theorem dX3_passNights_13 : decode cX3_passNights 13 = .ok (.aload_n 0, 1) := by decide +kernel
theorem dX3_passNights_14 : decode cX3_passNights 14 = .ok (.getfield 33, 3) := by decide +kernel
theorem dX3_passNights_17 : decode cX3_passNights 17 = .ok (.aload_n 0, 1) := by decide +kernel
theorem dX3_passNights_18 : decode cX3_passNights 18 = .ok (.getfield 103, 3) := by decide +kernel
theorem dX3_passNights_21 : decode cX3_passNights 21 = .ok (.iload 4, 2) := by decide +kernel
theorem dX3_passNights_23 : decode cX3_passNights 23 = .ok (.iadd, 1) := by decide +kernel
theorem dX3_passNights_24 : decode cX3_passNights 24 = .ok (.invokestatic 106, 3) := by decide +kernel
theorem dX3_passNights_27 : decode cX3_passNights 27 = .ok (.iaload, 1) := by decide +kernel
theorem dX3_passNights_28 : decode cX3_passNights 28 = .ok (.invokevirtual 224, 3) := by decide +kernel
theorem dX3_passNights_31 : decode cX3_passNights 31 = .ok (.iadd, 1) := by decide +kernel
theorem dX3_passNights_32 : decode cX3_passNights 32 = .ok (.istore_n 3, 1) := by decide +kernel
theorem dX3_passNights_33 : decode cX3_passNights 33 = .ok (.iinc 4 1, 3) := by decide +kernel
theorem dX3_passNights_36 : decode cX3_passNights 36 = .ok (.goto (-31), 3) := by decide +kernel
theorem dX3_passNights_39 : decode cX3_passNights 39 = .ok (.iload_n 3, 1) := by decide +kernel
theorem dX3_passNights_40 : decode cX3_passNights 40 = .ok (.ireturn, 1) := by decide +kernel
theorem dX3_countNow_0 : decode cX3_countNow 0 = .ok (.iload_n 1, 1) := by decide +kernel
theorem dX3_countNow_1 : decode cX3_countNow 1 = .ok (.tableswitch 84 0 8 #[51, 56, 64, 69, 74, 84, 84, 84, 79], 51) := by decide +kernel
theorem dX3_countNow_52 : decode cX3_countNow 52 = .ok (.aload_n 0, 1) := by decide +kernel
theorem dX3_countNow_53 : decode cX3_countNow 53 = .ok (.getfield 103, 3) := by decide +kernel
theorem dX3_countNow_56 : decode cX3_countNow 56 = .ok (.ireturn, 1) := by decide +kernel
theorem dX3_countNow_57 : decode cX3_countNow 57 = .ok (.aload_n 0, 1) := by decide +kernel
theorem dX3_countNow_58 : decode cX3_countNow 58 = .ok (.getfield 103, 3) := by decide +kernel
theorem dX3_countNow_61 : decode cX3_countNow 61 = .ok (.invokestatic 106, 3) := by decide +kernel
theorem dX3_countNow_64 : decode cX3_countNow 64 = .ok (.ireturn, 1) := by decide +kernel
theorem dX3_countNow_65 : decode cX3_countNow 65 = .ok (.aload_n 0, 1) := by decide +kernel
theorem dX3_countNow_66 : decode cX3_countNow 66 = .ok (.getfield 37, 3) := by decide +kernel
theorem dX3_countNow_69 : decode cX3_countNow 69 = .ok (.ireturn, 1) := by decide +kernel
theorem dX3_countNow_70 : decode cX3_countNow 70 = .ok (.aload_n 0, 1) := by decide +kernel
theorem dX3_countNow_71 : decode cX3_countNow 71 = .ok (.getfield 41, 3) := by decide +kernel
theorem dX3_countNow_74 : decode cX3_countNow 74 = .ok (.ireturn, 1) := by decide +kernel
theorem dX3_countNow_75 : decode cX3_countNow 75 = .ok (.aload_n 0, 1) := by decide +kernel
theorem dX3_countNow_76 : decode cX3_countNow 76 = .ok (.getfield 83, 3) := by decide +kernel
theorem dX3_countNow_79 : decode cX3_countNow 79 = .ok (.ireturn, 1) := by decide +kernel
theorem dX3_countNow_80 : decode cX3_countNow 80 = .ok (.aload_n 0, 1) := by decide +kernel
theorem dX3_countNow_81 : decode cX3_countNow 81 = .ok (.getfield 221, 3) := by decide +kernel
theorem dX3_countNow_84 : decode cX3_countNow 84 = .ok (.ireturn, 1) := by decide +kernel
theorem dX3_countNow_85 : decode cX3_countNow 85 = .ok (.aload_n 0, 1) := by decide +kernel
theorem dX3_countNow_86 : decode cX3_countNow 86 = .ok (.getfield 10, 3) := by decide +kernel
theorem dX3_countNow_89 : decode cX3_countNow 89 = .ok (.iload_n 1, 1) := by decide +kernel
theorem dX3_countNow_90 : decode cX3_countNow 90 = .ok (.invokevirtual 184, 3) := by decide +kernel
theorem dX3_countNow_93 : decode cX3_countNow 93 = .ok (.ireturn, 1) := by decide +kernel
theorem dX3_mix_0 : decode cX3_mix 0 = .ok (.lload_n 0, 1) := by decide +kernel
theorem dX3_mix_1 : decode cX3_mix 1 = .ok (.ldc2_w 227, 3) := by decide +kernel
theorem dX3_mix_4 : decode cX3_mix 4 = .ok (.lmul, 1) := by decide +kernel
theorem dX3_mix_5 : decode cX3_mix 5 = .ok (.iload_n 2, 1) := by decide +kernel
theorem dX3_mix_6 : decode cX3_mix 6 = .ok (.i2l, 1) := by decide +kernel
theorem dX3_mix_7 : decode cX3_mix 7 = .ok (.ladd, 1) := by decide +kernel
theorem dX3_mix_8 : decode cX3_mix 8 = .ok (.lreturn, 1) := by decide +kernel
theorem dX3_mixTune_0 : decode cX3_mixTune 0 = .ok (.lload_n 1, 1) := by decide +kernel
theorem dX3_mixTune_1 : decode cX3_mixTune 1 = .ok (.aload_n 3, 1) := by decide +kernel
theorem dX3_mixTune_2 : decode cX3_mixTune 2 = .ok (.getfield 58, 3) := by decide +kernel
theorem dX3_mixTune_5 : decode cX3_mixTune 5 = .ok (.invokestatic 189, 3) := by decide +kernel
theorem dX3_mixTune_8 : decode cX3_mixTune 8 = .ok (.lstore 4, 2) := by decide +kernel
theorem dX3_mixTune_10 : decode cX3_mixTune 10 = .ok (.iconst 0, 1) := by decide +kernel
theorem dX3_mixTune_11 : decode cX3_mixTune 11 = .ok (.istore 6, 2) := by decide +kernel
theorem dX3_mixTune_13 : decode cX3_mixTune 13 = .ok (.iload 6, 2) := by decide +kernel
theorem dX3_mixTune_15 : decode cX3_mixTune 15 = .ok (.aload_n 3, 1) := by decide +kernel
theorem dX3_mixTune_16 : decode cX3_mixTune 16 = .ok (.getfield 58, 3) := by decide +kernel
theorem dX3_mixTune_19 : decode cX3_mixTune 19 = .ok (.if_icmp .ge 30, 3) := by decide +kernel
theorem dX3_mixTune_22 : decode cX3_mixTune 22 = .ok (.iload 6, 2) := by decide +kernel
theorem dX3_mixTune_24 : decode cX3_mixTune 24 = .ok (.bipush 16, 2) := by decide +kernel
theorem dX3_mixTune_26 : decode cX3_mixTune 26 = .ok (.if_icmp .ge 23, 3) := by decide +kernel
theorem dX3_mixTune_29 : decode cX3_mixTune 29 = .ok (.lload 4, 2) := by decide +kernel
theorem dX3_mixTune_31 : decode cX3_mixTune 31 = .ok (.aload_n 3, 1) := by decide +kernel
theorem dX3_mixTune_32 : decode cX3_mixTune 32 = .ok (.getfield 72, 3) := by decide +kernel
theorem dX3_mixTune_35 : decode cX3_mixTune 35 = .ok (.iload 6, 2) := by decide +kernel
theorem dX3_mixTune_37 : decode cX3_mixTune 37 = .ok (.iaload, 1) := by decide +kernel
theorem dX3_mixTune_38 : decode cX3_mixTune 38 = .ok (.invokestatic 189, 3) := by decide +kernel
theorem dX3_mixTune_41 : decode cX3_mixTune 41 = .ok (.lstore 4, 2) := by decide +kernel
theorem dX3_mixTune_43 : decode cX3_mixTune 43 = .ok (.iinc 6 1, 3) := by decide +kernel
theorem dX3_mixTune_46 : decode cX3_mixTune 46 = .ok (.goto (-33), 3) := by decide +kernel
theorem dX3_mixTune_49 : decode cX3_mixTune 49 = .ok (.lload 4, 2) := by decide +kernel
theorem dX3_mixTune_51 : decode cX3_mixTune 51 = .ok (.aload_n 3, 1) := by decide +kernel
theorem dX3_mixTune_52 : decode cX3_mixTune 52 = .ok (.aload_n 0, 1) := by decide +kernel
theorem dX3_mixTune_53 : decode cX3_mixTune 53 = .ok (.getfield 10, 3) := by decide +kernel
theorem dX3_mixTune_56 : decode cX3_mixTune 56 = .ok (.invokevirtual 156, 3) := by decide +kernel
theorem dX3_mixTune_59 : decode cX3_mixTune 59 = .ok (.invokestatic 189, 3) := by decide +kernel
theorem dX3_mixTune_62 : decode cX3_mixTune 62 = .ok (.lreturn, 1) := by decide +kernel
theorem dX3_mixStreet_0 : decode cX3_mixStreet 0 = .ok (.lload_n 1, 1) := by decide +kernel
theorem dX3_mixStreet_1 : decode cX3_mixStreet 1 = .ok (.lstore 4, 2) := by decide +kernel
theorem dX3_mixStreet_3 : decode cX3_mixStreet 3 = .ok (.iconst 0, 1) := by decide +kernel
theorem dX3_mixStreet_4 : decode cX3_mixStreet 4 = .ok (.istore 6, 2) := by decide +kernel
theorem dX3_mixStreet_6 : decode cX3_mixStreet 6 = .ok (.iload 6, 2) := by decide +kernel
theorem dX3_mixStreet_8 : decode cX3_mixStreet 8 = .ok (.iconst 5, 1) := by decide +kernel
theorem dX3_mixStreet_9 : decode cX3_mixStreet 9 = .ok (.if_icmp .ge 34, 3) := by decide +kernel
theorem dX3_mixStreet_12 : decode cX3_mixStreet 12 = .ok (.lload 4, 2) := by decide +kernel
theorem dX3_mixStreet_14 : decode cX3_mixStreet 14 = .ok (.aload_n 0, 1) := by decide +kernel
theorem dX3_mixStreet_15 : decode cX3_mixStreet 15 = .ok (.getfield 28, 3) := by decide +kernel
theorem dX3_mixStreet_18 : decode cX3_mixStreet 18 = .ok (.iload_n 3, 1) := by decide +kernel
theorem dX3_mixStreet_19 : decode cX3_mixStreet 19 = .ok (.aaload, 1) := by decide +kernel
theorem dX3_mixStreet_20 : decode cX3_mixStreet 20 = .ok (.iload 6, 2) := by decide +kernel
theorem dX3_mixStreet_22 : decode cX3_mixStreet 22 = .ok (.aload_n 0, 1) := by decide +kernel
theorem dX3_mixStreet_23 : decode cX3_mixStreet 23 = .ok (.getfield 103, 3) := by decide +kernel
theorem dX3_mixStreet_26 : decode cX3_mixStreet 26 = .ok (.invokestatic 106, 3) := by decide +kernel
theorem dX3_mixStreet_29 : decode cX3_mixStreet 29 = .ok (.invokevirtual 160, 3) := by decide +kernel
theorem dX3_mixStreet_32 : decode cX3_mixStreet 32 = .ok (.invokestatic 189, 3) := by decide +kernel
theorem dX3_mixStreet_35 : decode cX3_mixStreet 35 = .ok (.lstore 4, 2) := by decide +kernel
theorem dX3_mixStreet_37 : decode cX3_mixStreet 37 = .ok (.iinc 6 1, 3) := by decide +kernel
theorem dX3_mixStreet_40 : decode cX3_mixStreet 40 = .ok (.goto (-34), 3) := by decide +kernel
theorem dX3_mixStreet_43 : decode cX3_mixStreet 43 = .ok (.iconst 0, 1) := by decide +kernel
theorem dX3_mixStreet_44 : decode cX3_mixStreet 44 = .ok (.istore 6, 2) := by decide +kernel
theorem dX3_mixStreet_46 : decode cX3_mixStreet 46 = .ok (.iload 6, 2) := by decide +kernel
theorem dX3_mixStreet_48 : decode cX3_mixStreet 48 = .ok (.aload_n 0, 1) := by decide +kernel
theorem dX3_mixStreet_49 : decode cX3_mixStreet 49 = .ok (.getfield 41, 3) := by decide +kernel
theorem dX3_mixStreet_52 : decode cX3_mixStreet 52 = .ok (.if_icmp .ge 23, 3) := by decide +kernel
theorem dX3_mixStreet_55 : decode cX3_mixStreet 55 = .ok (.lload 4, 2) := by decide +kernel
theorem dX3_mixStreet_57 : decode cX3_mixStreet 57 = .ok (.aload_n 0, 1) := by decide +kernel
theorem dX3_mixStreet_58 : decode cX3_mixStreet 58 = .ok (.iload_n 3, 1) := by decide +kernel
theorem dX3_mixStreet_59 : decode cX3_mixStreet 59 = .ok (.iload 6, 2) := by decide +kernel
theorem dX3_mixStreet_61 : decode cX3_mixStreet 61 = .ok (.invokevirtual 117, 3) := by decide +kernel
theorem dX3_mixStreet_64 : decode cX3_mixStreet 64 = .ok (.invokestatic 189, 3) := by decide +kernel
theorem dX3_mixStreet_67 : decode cX3_mixStreet 67 = .ok (.lstore 4, 2) := by decide +kernel
theorem dX3_mixStreet_69 : decode cX3_mixStreet 69 = .ok (.iinc 6 1, 3) := by decide +kernel
theorem dX3_mixStreet_72 : decode cX3_mixStreet 72 = .ok (.goto (-26), 3) := by decide +kernel
theorem dX3_mixStreet_75 : decode cX3_mixStreet 75 = .ok (.lload 4, 2) := by decide +kernel
theorem dX3_mixStreet_77 : decode cX3_mixStreet 77 = .ok (.lreturn, 1) := by decide +kernel
end
section
theorem dX4_init_0 : decode cX4_init 0 = .ok (.aload_n 0, 1) := by decide +kernel
theorem dX4_init_1 : decode cX4_init 1 = .ok (.invokespecial 1, 3) := by decide +kernel
theorem dX4_init_4 : decode cX4_init 4 = .ok (.aload_n 0, 1) := by decide +kernel
theorem dX4_init_5 : decode cX4_init 5 = .ok (.bipush 20, 2) := by decide +kernel
theorem dX4_init_7 : decode cX4_init 7 = .ok (.putfield 7, 3) := by decide +kernel
theorem dX4_init_10 : decode cX4_init 10 = .ok (.aload_n 0, 1) := by decide +kernel
theorem dX4_init_11 : decode cX4_init 11 = .ok (.bipush 12, 2) := by decide +kernel
theorem dX4_init_13 : decode cX4_init 13 = .ok (.newarray .int, 2) := by decide +kernel
theorem dX4_init_15 : decode cX4_init 15 = .ok (.putfield 13, 3) := by decide +kernel
theorem dX4_init_18 : decode cX4_init 18 = .ok (.aload_n 0, 1) := by decide +kernel
theorem dX4_init_19 : decode cX4_init 19 = .ok (.bipush 12, 2) := by decide +kernel
theorem dX4_init_21 : decode cX4_init 21 = .ok (.newarray .int, 2) := by decide +kernel
theorem dX4_init_23 : decode cX4_init 23 = .ok (.putfield 17, 3) := by decide +kernel
theorem dX4_init_26 : decode cX4_init 26 = .ok (.aload_n 0, 1) := by decide +kernel
theorem dX4_init_27 : decode cX4_init 27 = .ok (.bipush 12, 2) := by decide +kernel
theorem dX4_init_29 : decode cX4_init 29 = .ok (.newarray .boolean, 2) := by decide +kernel
theorem dX4_init_31 : decode cX4_init 31 = .ok (.putfield 20, 3) := by decide +kernel
theorem dX4_init_34 : decode cX4_init 34 = .ok (.aload_n 0, 1) := by decide +kernel
theorem dX4_init_35 : decode cX4_init 35 = .ok (.bipush 12, 2) := by decide +kernel
theorem dX4_init_37 : decode cX4_init 37 = .ok (.newarray .boolean, 2) := by decide +kernel
theorem dX4_init_39 : decode cX4_init 39 = .ok (.putfield 24, 3) := by decide +kernel
theorem dX4_init_42 : decode cX4_init 42 = .ok (.aload_n 0, 1) := by decide +kernel
theorem dX4_init_43 : decode cX4_init 43 = .ok (.iconst 0, 1) := by decide +kernel
theorem dX4_init_44 : decode cX4_init 44 = .ok (.anewarray 27, 3) := by decide +kernel
theorem dX4_init_47 : decode cX4_init 47 = .ok (.putfield 28, 3) := by decide +kernel
theorem dX4_init_50 : decode cX4_init 50 = .ok (.aload_n 0, 1) := by decide +kernel
theorem dX4_init_51 : decode cX4_init 51 = .ok (.iconst 0, 1) := by decide +kernel
theorem dX4_init_52 : decode cX4_init 52 = .ok (.anewarray 27, 3) := by decide +kernel
theorem dX4_init_55 : decode cX4_init 55 = .ok (.putfield 32, 3) := by decide +kernel
theorem dX4_init_58 : decode cX4_init 58 = .ok (.aload_n 0, 1) := by decide +kernel
theorem dX4_init_59 : decode cX4_init 59 = .ok (.bipush 7, 2) := by decide +kernel
theorem dX4_init_61 : decode cX4_init 61 = .ok (.newarray .int, 2) := by decide +kernel
theorem dX4_init_63 : decode cX4_init 63 = .ok (.putfield 35, 3) := by decide +kernel
theorem dX4_init_66 : decode cX4_init 66 = .ok (.return_, 1) := by decide +kernel
theorem dX4_more_0 : decode cX4_more 0 = .ok (.aload_n 0, 1) := by decide +kernel
theorem dX4_more_1 : decode cX4_more 1 = .ok (.arraylength, 1) := by decide +kernel
theorem dX4_more_2 : decode cX4_more 2 = .ok (.iconst 1, 1) := by decide +kernel
theorem dX4_more_3 : decode cX4_more 3 = .ok (.iadd, 1) := by decide +kernel
theorem dX4_more_4 : decode cX4_more 4 = .ok (.anewarray 27, 3) := by decide +kernel
theorem dX4_more_7 : decode cX4_more 7 = .ok (.astore_n 2, 1) := by decide +kernel
theorem dX4_more_8 : decode cX4_more 8 = .ok (.iconst 0, 1) := by decide +kernel
theorem dX4_more_9 : decode cX4_more 9 = .ok (.istore_n 3, 1) := by decide +kernel
theorem dX4_more_10 : decode cX4_more 10 = .ok (.iload_n 3, 1) := by decide +kernel
theorem dX4_more_11 : decode cX4_more 11 = .ok (.aload_n 0, 1) := by decide +kernel
theorem dX4_more_12 : decode cX4_more 12 = .ok (.arraylength, 1) := by decide +kernel
theorem dX4_more_13 : decode cX4_more 13 = .ok (.if_icmp .ge 15, 3) := by decide +kernel
theorem dX4_more_16 : decode cX4_more 16 = .ok (.aload_n 2, 1) := by decide +kernel
theorem dX4_more_17 : decode cX4_more 17 = .ok (.iload_n 3, 1) := by decide +kernel
theorem dX4_more_18 : decode cX4_more 18 = .ok (.aload_n 0, 1) := by decide +kernel
theorem dX4_more_19 : decode cX4_more 19 = .ok (.iload_n 3, 1) := by decide +kernel
theorem dX4_more_20 : decode cX4_more 20 = .ok (.aaload, 1) := by decide +kernel
theorem dX4_more_21 : decode cX4_more 21 = .ok (.aastore, 1) := by decide +kernel
theorem dX4_more_22 : decode cX4_more 22 = .ok (.iinc 3 1, 3) := by decide +kernel
theorem dX4_more_25 : decode cX4_more 25 = .ok (.goto (-15), 3) := by decide +kernel
theorem dX4_more_28 : decode cX4_more 28 = .ok (.aload_n 2, 1) := by decide +kernel
theorem dX4_more_29 : decode cX4_more 29 = .ok (.aload_n 0, 1) := by decide +kernel
theorem dX4_more_30 : decode cX4_more 30 = .ok (.arraylength, 1) := by decide +kernel
theorem dX4_more_31 : decode cX4_more 31 = .ok (.aload_n 1, 1) := by decide +kernel
theorem dX4_more_32 : decode cX4_more 32 = .ok (.aastore, 1) := by decide +kernel
theorem dX4_more_33 : decode cX4_more 33 = .ok (.aload_n 2, 1) := by decide +kernel
theorem dX4_more_34 : decode cX4_more 34 = .ok (.areturn, 1) := by decide +kernel
theorem dX4_harm_0 : decode cX4_harm 0 = .ok (.aload_n 0, 1) := by decide +kernel
theorem dX4_harm_1 : decode cX4_harm 1 = .ok (.getfield 17, 3) := by decide +kernel
theorem dX4_harm_4 : decode cX4_harm 4 = .ok (.iload_n 1, 1) := by decide +kernel
theorem dX4_harm_5 : decode cX4_harm 5 = .ok (.iaload, 1) := by decide +kernel
theorem dX4_harm_6 : decode cX4_harm 6 = .ok (.ifCond .ge 13, 3) := by decide +kernel
theorem dX4_harm_9 : decode cX4_harm 9 = .ok (.aload_n 0, 1) := by decide +kernel
theorem dX4_harm_10 : decode cX4_harm 10 = .ok (.getfield 17, 3) := by decide +kernel
theorem dX4_harm_13 : decode cX4_harm 13 = .ok (.iload_n 1, 1) := by decide +kernel
theorem dX4_harm_14 : decode cX4_harm 14 = .ok (.iaload, 1) := by decide +kernel
theorem dX4_harm_15 : decode cX4_harm 15 = .ok (.ineg, 1) := by decide +kernel
theorem dX4_harm_16 : decode cX4_harm 16 = .ok (.goto 9, 3) := by decide +kernel
theorem dX4_harm_19 : decode cX4_harm 19 = .ok (.aload_n 0, 1) := by decide +kernel
theorem dX4_harm_20 : decode cX4_harm 20 = .ok (.getfield 17, 3) := by decide +kernel
theorem dX4_harm_23 : decode cX4_harm 23 = .ok (.iload_n 1, 1) := by decide +kernel
theorem dX4_harm_24 : decode cX4_harm 24 = .ok (.iaload, 1) := by decide +kernel
theorem dX4_harm_25 : decode cX4_harm 25 = .ok (.aload_n 0, 1) := by decide +kernel
theorem dX4_harm_26 : decode cX4_harm 26 = .ok (.getfield 13, 3) := by decide +kernel
theorem dX4_harm_29 : decode cX4_harm 29 = .ok (.iload_n 1, 1) := by decide +kernel
theorem dX4_harm_30 : decode cX4_harm 30 = .ok (.iaload, 1) := by decide +kernel
theorem dX4_harm_31 : decode cX4_harm 31 = .ok (.iadd, 1) := by decide +kernel
theorem dX4_harm_32 : decode cX4_harm 32 = .ok (.aload_n 0, 1) := by decide +kernel
theorem dX4_harm_33 : decode cX4_harm 33 = .ok (.getfield 13, 3) := by decide +kernel
theorem dX4_harm_36 : decode cX4_harm 36 = .ok (.iload_n 1, 1) := by decide +kernel
theorem dX4_harm_37 : decode cX4_harm 37 = .ok (.iaload, 1) := by decide +kernel
theorem dX4_harm_38 : decode cX4_harm 38 = .ok (.iadd, 1) := by decide +kernel
theorem dX4_harm_39 : decode cX4_harm 39 = .ok (.istore_n 2, 1) := by decide +kernel
theorem dX4_harm_40 : decode cX4_harm 40 = .ok (.aload_n 0, 1) := by decide +kernel
theorem dX4_harm_41 : decode cX4_harm 41 = .ok (.getfield 20, 3) := by decide +kernel
theorem dX4_harm_44 : decode cX4_harm 44 = .ok (.iload_n 1, 1) := by decide +kernel
theorem dX4_harm_45 : decode cX4_harm 45 = .ok (.baload, 1) := by decide +kernel
theorem dX4_harm_46 : decode cX4_harm 46 = .ok (.ifCond .ne 9, 3) := by decide +kernel
theorem dX4_harm_49 : decode cX4_harm 49 = .ok (.iload_n 2, 1) := by decide +kernel
theorem dX4_harm_50 : decode cX4_harm 50 = .ok (.bipush 60, 2) := by decide +kernel
theorem dX4_harm_52 : decode cX4_harm 52 = .ok (.if_icmp .le 8, 3) := by decide +kernel
theorem dX4_harm_55 : decode cX4_harm 55 = .ok (.bipush 60, 2) := by decide +kernel
theorem dX4_harm_57 : decode cX4_harm 57 = .ok (.goto 4, 3) := by decide +kernel
theorem dX4_harm_60 : decode cX4_harm 60 = .ok (.iload_n 2, 1) := by decide +kernel
theorem dX4_harm_61 : decode cX4_harm 61 = .ok (.ireturn, 1) := by decide +kernel
theorem dX4_sound_0 : decode cX4_sound 0 = .ok (.aload_n 0, 1) := by decide +kernel
theorem dX4_sound_1 : decode cX4_sound 1 = .ok (.getfield 28, 3) := by decide +kernel
theorem dX4_sound_4 : decode cX4_sound 4 = .ok (.iload_n 1, 1) := by decide +kernel
theorem dX4_sound_5 : decode cX4_sound 5 = .ok (.aaload, 1) := by decide +kernel
theorem dX4_sound_6 : decode cX4_sound 6 = .ok (.arraylength, 1) := by decide +kernel
theorem dX4_sound_7 : decode cX4_sound 7 = .ok (.ifCond .ne 5, 3) := by decide +kernel
theorem dX4_sound_10 : decode cX4_sound 10 = .ok (.iconst 0, 1) := by decide +kernel
theorem dX4_sound_11 : decode cX4_sound 11 = .ok (.ireturn, 1) := by decide +kernel
theorem dX4_sound_12 : decode cX4_sound 12 = .ok (.iconst 0, 1) := by decide +kernel
theorem dX4_sound_13 : decode cX4_sound 13 = .ok (.istore_n 2, 1) := by decide +kernel
theorem dX4_sound_14 : decode cX4_sound 14 = .ok (.aload_n 0, 1) := by decide +kernel
theorem dX4_sound_15 : decode cX4_sound 15 = .ok (.getfield 28, 3) := by decide +kernel
theorem dX4_sound_18 : decode cX4_sound 18 = .ok (.iload_n 1, 1) := by decide +kernel
theorem dX4_sound_19 : decode cX4_sound 19 = .ok (.aaload, 1) := by decide +kernel
theorem dX4_sound_20 : decode cX4_sound 20 = .ok (.astore_n 3, 1) := by decide +kernel
theorem dX4_sound_21 : decode cX4_sound 21 = .ok (.aload_n 3, 1) := by decide +kernel
theorem dX4_sound_22 : decode cX4_sound 22 = .ok (.arraylength, 1) := by decide +kernel
theorem dX4_sound_23 : decode cX4_sound 23 = .ok (.istore 4, 2) := by decide +kernel
theorem dX4_sound_25 : decode cX4_sound 25 = .ok (.iconst 0, 1) := by decide +kernel
theorem dX4_sound_26 : decode cX4_sound 26 = .ok (.istore 5, 2) := by decide +kernel
theorem dX4_sound_28 : decode cX4_sound 28 = .ok (.iload 5, 2) := by decide +kernel
theorem dX4_sound_30 : decode cX4_sound 30 = .ok (.iload 4, 2) := by decide +kernel
theorem dX4_sound_32 : decode cX4_sound 32 = .ok (.if_icmp .ge 24, 3) := by decide +kernel
theorem dX4_sound_35 : decode cX4_sound 35 = .ok (.aload_n 3, 1) := by decide +kernel
theorem dX4_sound_36 : decode cX4_sound 36 = .ok (.iload 5, 2) := by decide +kernel
theorem dX4_sound_38 : decode cX4_sound 38 = .ok (.iaload, 1) := by decide +kernel
theorem dX4_sound_39 : decode cX4_sound 39 = .ok (.istore 6, 2) := by decide +kernel
theorem dX4_sound_41 : decode cX4_sound 41 = .ok (.iload_n 2, 1) := by decide +kernel
theorem dX4_sound_42 : decode cX4_sound 42 = .ok (.aload_n 0, 1) := by decide +kernel
theorem dX4_sound_43 : decode cX4_sound 43 = .ok (.iload 6, 2) := by decide +kernel
theorem dX4_sound_45 : decode cX4_sound 45 = .ok (.invokevirtual 38, 3) := by decide +kernel
theorem dX4_sound_48 : decode cX4_sound 48 = .ok (.iadd, 1) := by decide +kernel
theorem dX4_sound_49 : decode cX4_sound 49 = .ok (.istore_n 2, 1) := by decide +kernel
theorem dX4_sound_50 : decode cX4_sound 50 = .ok (.iinc 5 1, 3) := by decide +kernel
theorem dX4_sound_53 : decode cX4_sound 53 = .ok (.goto (-25), 3) := by decide +kernel
theorem dX4_sound_56 : decode cX4_sound 56 = .ok (.bipush 60, 2) := by decide +kernel
theorem dX4_sound_58 : decode cX4_sound 58 = .ok (.iload_n 2, 1) := by decide +kernel
theorem dX4_sound_59 : decode cX4_sound 59 = .ok (.aload_n 0, 1) := by decide +kernel
theorem dX4_sound_60 : decode cX4_sound 60 = .ok (.getfield 28, 3) := by decide +kernel
theorem dX4_sound_63 : decode cX4_sound 63 = .ok (.iload_n 1, 1) := by decide +kernel
theorem dX4_sound_64 : decode cX4_sound 64 = .ok (.aaload, 1) := by decide +kernel
theorem dX4_sound_65 : decode cX4_sound 65 = .ok (.arraylength, 1) := by decide +kernel
theorem dX4_sound_66 : decode cX4_sound 66 = .ok (.idiv, 1) := by decide +kernel
theorem dX4_sound_67 : decode cX4_sound 67 = .ok (.isub, 1) := by decide +kernel
theorem dX4_sound_68 : decode cX4_sound 68 = .ok (.ireturn, 1) := by decide +kernel
theorem dX4_pays_0 : decode cX4_pays 0 = .ok (.aload_n 0, 1) := by decide +kernel
theorem dX4_pays_1 : decode cX4_pays 1 = .ok (.getfield 32, 3) := by decide +kernel
theorem dX4_pays_4 : decode cX4_pays 4 = .ok (.iload_n 1, 1) := by decide +kernel
theorem dX4_pays_5 : decode cX4_pays 5 = .ok (.aaload, 1) := by decide +kernel
theorem dX4_pays_6 : decode cX4_pays 6 = .ok (.iconst 0, 1) := by decide +kernel
theorem dX4_pays_7 : decode cX4_pays 7 = .ok (.iaload, 1) := by decide +kernel
theorem dX4_pays_8 : decode cX4_pays 8 = .ok (.aload_n 0, 1) := by decide +kernel
theorem dX4_pays_9 : decode cX4_pays 9 = .ok (.iload_n 2, 1) := by decide +kernel
theorem dX4_pays_10 : decode cX4_pays 10 = .ok (.invokevirtual 42, 3) := by decide +kernel
theorem dX4_pays_13 : decode cX4_pays 13 = .ok (.imul, 1) := by decide +kernel
theorem dX4_pays_14 : decode cX4_pays 14 = .ok (.bipush 60, 2) := by decide +kernel
theorem dX4_pays_16 : decode cX4_pays 16 = .ok (.idiv, 1) := by decide +kernel
theorem dX4_pays_17 : decode cX4_pays 17 = .ok (.istore_n 3, 1) := by decide +kernel
theorem dX4_pays_18 : decode cX4_pays 18 = .ok (.iconst 0, 1) := by decide +kernel
theorem dX4_pays_19 : decode cX4_pays 19 = .ok (.istore 4, 2) := by decide +kernel
theorem dX4_pays_21 : decode cX4_pays 21 = .ok (.iload 4, 2) := by decide +kernel
theorem dX4_pays_23 : decode cX4_pays 23 = .ok (.aload_n 0, 1) := by decide +kernel
theorem dX4_pays_24 : decode cX4_pays 24 = .ok (.getfield 32, 3) := by decide +kernel
theorem dX4_pays_27 : decode cX4_pays 27 = .ok (.iload_n 1, 1) := by decide +kernel
theorem dX4_pays_28 : decode cX4_pays 28 = .ok (.aaload, 1) := by decide +kernel
theorem dX4_pays_29 : decode cX4_pays 29 = .ok (.iconst 3, 1) := by decide +kernel
theorem dX4_pays_30 : decode cX4_pays 30 = .ok (.iload_n 2, 1) := by decide +kernel
theorem dX4_pays_31 : decode cX4_pays 31 = .ok (.iadd, 1) := by decide +kernel
theorem dX4_pays_32 : decode cX4_pays 32 = .ok (.iaload, 1) := by decide +kernel
theorem dX4_pays_33 : decode cX4_pays 33 = .ok (.if_icmp .ge 13, 3) := by decide +kernel
theorem dX4_pays_36 : decode cX4_pays 36 = .ok (.iload_n 3, 1) := by decide +kernel
theorem dX4_pays_37 : decode cX4_pays 37 = .ok (.iconst 2, 1) := by decide +kernel
theorem dX4_pays_38 : decode cX4_pays 38 = .ok (.idiv, 1) := by decide +kernel
theorem dX4_pays_39 : decode cX4_pays 39 = .ok (.istore_n 3, 1) := by decide +kernel
theorem dX4_pays_40 : decode cX4_pays 40 = .ok (.iinc 4 1, 3) := by decide +kernel
theorem dX4_pays_43 : decode cX4_pays 43 = .ok (.goto (-22), 3) := by decide +kernel
theorem dX4_pays_46 : decode cX4_pays 46 = .ok (.iload_n 3, 1) := by decide +kernel
theorem dX4_pays_47 : decode cX4_pays 47 = .ok (.ireturn, 1) := by decide +kernel
theorem dX4_sing_0 : decode cX4_sing 0 = .ok (.aload_n 0, 1) := by decide +kernel
theorem dX4_sing_1 : decode cX4_sing 1 = .ok (.getfield 28, 3) := by decide +kernel
theorem dX4_sing_4 : decode cX4_sing 4 = .ok (.iload_n 1, 1) := by decide +kernel
theorem dX4_sing_5 : decode cX4_sing 5 = .ok (.aaload, 1) := by decide +kernel
theorem dX4_sing_6 : decode cX4_sing 6 = .ok (.astore_n 2, 1) := by decide +kernel
theorem dX4_sing_7 : decode cX4_sing 7 = .ok (.aload_n 2, 1) := by decide +kernel
theorem dX4_sing_8 : decode cX4_sing 8 = .ok (.arraylength, 1) := by decide +kernel
theorem dX4_sing_9 : decode cX4_sing 9 = .ok (.istore_n 3, 1) := by decide +kernel
theorem dX4_sing_10 : decode cX4_sing 10 = .ok (.iconst 0, 1) := by decide +kernel
theorem dX4_sing_11 : decode cX4_sing 11 = .ok (.istore 4, 2) := by decide +kernel
theorem dX4_sing_13 : decode cX4_sing 13 = .ok (.iload 4, 2) := by decide +kernel
theorem dX4_sing_15 : decode cX4_sing 15 = .ok (.iload_n 3, 1) := by decide +kernel
theorem dX4_sing_16 : decode cX4_sing 16 = .ok (.if_icmp .ge 46, 3) := by decide +kernel
theorem dX4_sing_19 : decode cX4_sing 19 = .ok (.aload_n 2, 1) := by decide +kernel
theorem dX4_sing_20 : decode cX4_sing 20 = .ok (.iload 4, 2) := by decide +kernel
theorem dX4_sing_22 : decode cX4_sing 22 = .ok (.iaload, 1) := by decide +kernel
theorem dX4_sing_23 : decode cX4_sing 23 = .ok (.istore 5, 2) := by decide +kernel
theorem dX4_sing_25 : decode cX4_sing 25 = .ok (.aload_n 0, 1) := by decide +kernel
theorem dX4_sing_26 : decode cX4_sing 26 = .ok (.getfield 13, 3) := by decide +kernel
theorem dX4_sing_29 : decode cX4_sing 29 = .ok (.iload 5, 2) := by decide +kernel
theorem dX4_sing_31 : decode cX4_sing 31 = .ok (.iaload, 1) := by decide +kernel
theorem dX4_sing_32 : decode cX4_sing 32 = .ok (.bipush 30, 2) := by decide +kernel
theorem dX4_sing_34 : decode cX4_sing 34 = .ok (.if_icmp .ge 14, 3) := by decide +kernel
theorem dX4_sing_37 : decode cX4_sing 37 = .ok (.aload_n 0, 1) := by decide +kernel
theorem dX4_sing_38 : decode cX4_sing 38 = .ok (.getfield 13, 3) := by decide +kernel
theorem dX4_sing_41 : decode cX4_sing 41 = .ok (.iload 5, 2) := by decide +kernel
theorem dX4_sing_43 : decode cX4_sing 43 = .ok (.dup2, 1) := by decide +kernel
theorem dX4_sing_44 : decode cX4_sing 44 = .ok (.iaload, 1) := by decide +kernel
theorem dX4_sing_45 : decode cX4_sing 45 = .ok (.iconst 1, 1) := by decide +kernel
theorem dX4_sing_46 : decode cX4_sing 46 = .ok (.iadd, 1) := by decide +kernel
theorem dX4_sing_47 : decode cX4_sing 47 = .ok (.iastore, 1) := by decide +kernel
theorem dX4_sing_48 : decode cX4_sing 48 = .ok (.aload_n 0, 1) := by decide +kernel
theorem dX4_sing_49 : decode cX4_sing 49 = .ok (.getfield 24, 3) := by decide +kernel
theorem dX4_sing_52 : decode cX4_sing 52 = .ok (.iload 5, 2) := by decide +kernel
theorem dX4_sing_54 : decode cX4_sing 54 = .ok (.iconst 1, 1) := by decide +kernel
theorem dX4_sing_55 : decode cX4_sing 55 = .ok (.bastore, 1) := by decide +kernel
theorem dX4_sing_56 : decode cX4_sing 56 = .ok (.iinc 4 1, 3) := by decide +kernel
theorem dX4_sing_59 : decode cX4_sing 59 = .ok (.goto (-46), 3) := by decide +kernel
theorem dX4_sing_62 : decode cX4_sing 62 = .ok (.return_, 1) := by decide +kernel
theorem dX4_play_0 : decode cX4_play 0 = .ok (.aload_n 0, 1) := by decide +kernel
theorem dX4_play_1 : decode cX4_play 1 = .ok (.getfield 32, 3) := by decide +kernel
theorem dX4_play_4 : decode cX4_play 4 = .ok (.iload_n 1, 1) := by decide +kernel
theorem dX4_play_5 : decode cX4_play 5 = .ok (.aaload, 1) := by decide +kernel
theorem dX4_play_6 : decode cX4_play 6 = .ok (.astore_n 3, 1) := by decide +kernel
theorem dX4_play_7 : decode cX4_play 7 = .ok (.aload_n 3, 1) := by decide +kernel
theorem dX4_play_8 : decode cX4_play 8 = .ok (.iconst 1, 1) := by decide +kernel
theorem dX4_play_9 : decode cX4_play 9 = .ok (.iaload, 1) := by decide +kernel
theorem dX4_play_10 : decode cX4_play 10 = .ok (.iconst 1, 1) := by decide +kernel
theorem dX4_play_11 : decode cX4_play 11 = .ok (.aload_n 0, 1) := by decide +kernel
theorem dX4_play_12 : decode cX4_play 12 = .ok (.getfield 45, 3) := by decide +kernel
theorem dX4_play_15 : decode cX4_play 15 = .ok (.bipush 7, 2) := by decide +kernel
theorem dX4_play_17 : decode cX4_play 17 = .ok (.irem, 1) := by decide +kernel
theorem dX4_play_18 : decode cX4_play 18 = .ok (.ishl, 1) := by decide +kernel
theorem dX4_play_19 : decode cX4_play 19 = .ok (.iand, 1) := by decide +kernel
theorem dX4_play_20 : decode cX4_play 20 = .ok (.ifCond .ne 49, 3) := by decide +kernel
theorem dX4_play_23 : decode cX4_play 23 = .ok (.aload_n 0, 1) := by decide +kernel
theorem dX4_play_24 : decode cX4_play 24 = .ok (.getfield 7, 3) := by decide +kernel
theorem dX4_play_27 : decode cX4_play 27 = .ok (.bipush 10, 2) := by decide +kernel
theorem dX4_play_29 : decode cX4_play 29 = .ok (.if_icmp .le 8, 3) := by decide +kernel
theorem dX4_play_32 : decode cX4_play 32 = .ok (.bipush 10, 2) := by decide +kernel
theorem dX4_play_34 : decode cX4_play 34 = .ok (.goto 7, 3) := by decide +kernel
theorem dX4_play_37 : decode cX4_play 37 = .ok (.aload_n 0, 1) := by decide +kernel
theorem dX4_play_38 : decode cX4_play 38 = .ok (.getfield 7, 3) := by decide +kernel
theorem dX4_play_41 : decode cX4_play 41 = .ok (.istore 4, 2) := by decide +kernel
theorem dX4_play_43 : decode cX4_play 43 = .ok (.aload_n 0, 1) := by decide +kernel
theorem dX4_play_44 : decode cX4_play 44 = .ok (.dup, 1) := by decide +kernel
theorem dX4_play_45 : decode cX4_play 45 = .ok (.getfield 7, 3) := by decide +kernel
theorem dX4_play_48 : decode cX4_play 48 = .ok (.iload 4, 2) := by decide +kernel
theorem dX4_play_50 : decode cX4_play 50 = .ok (.isub, 1) := by decide +kernel
theorem dX4_play_51 : decode cX4_play 51 = .ok (.putfield 7, 3) := by decide +kernel
theorem dX4_play_54 : decode cX4_play 54 = .ok (.aload_n 0, 1) := by decide +kernel
theorem dX4_play_55 : decode cX4_play 55 = .ok (.dup, 1) := by decide +kernel
theorem dX4_play_56 : decode cX4_play 56 = .ok (.getfield 48, 3) := by decide +kernel
theorem dX4_play_59 : decode cX4_play 59 = .ok (.iload 4, 2) := by decide +kernel
theorem dX4_play_61 : decode cX4_play 61 = .ok (.iadd, 1) := by decide +kernel
theorem dX4_play_62 : decode cX4_play 62 = .ok (.putfield 48, 3) := by decide +kernel
theorem dX4_play_65 : decode cX4_play 65 = .ok (.iload 4, 2) := by decide +kernel
theorem dX4_play_67 : decode cX4_play 67 = .ok (.ineg, 1) := by decide +kernel
theorem dX4_play_68 : decode cX4_play 68 = .ok (.ireturn, 1) := by decide +kernel
theorem dX4_play_69 : decode cX4_play 69 = .ok (.aload_n 0, 1) := by decide +kernel
theorem dX4_play_70 : decode cX4_play 70 = .ok (.iload_n 1, 1) := by decide +kernel
theorem dX4_play_71 : decode cX4_play 71 = .ok (.iload_n 2, 1) := by decide +kernel
theorem dX4_play_72 : decode cX4_play 72 = .ok (.invokevirtual 51, 3) := by decide +kernel
theorem dX4_play_75 : decode cX4_play 75 = .ok (.istore 4, 2) := by decide +kernel
theorem dX4_play_77 : decode cX4_play 77 = .ok (.aload_n 0, 1) := by decide +kernel
theorem dX4_play_78 : decode cX4_play 78 = .ok (.dup, 1) := by decide +kernel
theorem dX4_play_79 : decode cX4_play 79 = .ok (.getfield 7, 3) := by decide +kernel
theorem dX4_play_82 : decode cX4_play 82 = .ok (.iload 4, 2) := by decide +kernel
theorem dX4_play_84 : decode cX4_play 84 = .ok (.iadd, 1) := by decide +kernel
theorem dX4_play_85 : decode cX4_play 85 = .ok (.putfield 7, 3) := by decide +kernel
theorem dX4_play_88 : decode cX4_play 88 = .ok (.aload_n 3, 1) := by decide +kernel
theorem dX4_play_89 : decode cX4_play 89 = .ok (.iconst 2, 1) := by decide +kernel
theorem dX4_play_90 : decode cX4_play 90 = .ok (.dup2, 1) := by decide +kernel
theorem dX4_play_91 : decode cX4_play 91 = .ok (.iaload, 1) := by decide +kernel
theorem dX4_play_92 : decode cX4_play 92 = .ok (.iload 4, 2) := by decide +kernel
theorem dX4_play_94 : decode cX4_play 94 = .ok (.iadd, 1) := by decide +kernel
theorem dX4_play_95 : decode cX4_play 95 = .ok (.iastore, 1) := by decide +kernel
theorem dX4_play_96 : decode cX4_play 96 = .ok (.aload_n 3, 1) := by decide +kernel
theorem dX4_play_97 : decode cX4_play 97 = .ok (.iconst 3, 1) := by decide +kernel
theorem dX4_play_98 : decode cX4_play 98 = .ok (.iload_n 2, 1) := by decide +kernel
theorem dX4_play_99 : decode cX4_play 99 = .ok (.iadd, 1) := by decide +kernel
theorem dX4_play_100 : decode cX4_play 100 = .ok (.dup2, 1) := by decide +kernel
theorem dX4_play_101 : decode cX4_play 101 = .ok (.iaload, 1) := by decide +kernel
theorem dX4_play_102 : decode cX4_play 102 = .ok (.iconst 1, 1) := by decide +kernel
theorem dX4_play_103 : decode cX4_play 103 = .ok (.iadd, 1) := by decide +kernel
theorem dX4_play_104 : decode cX4_play 104 = .ok (.iastore, 1) := by decide +kernel
theorem dX4_play_105 : decode cX4_play 105 = .ok (.aload_n 0, 1) := by decide +kernel
theorem dX4_play_106 : decode cX4_play 106 = .ok (.iload_n 2, 1) := by decide +kernel
theorem dX4_play_107 : decode cX4_play 107 = .ok (.invokevirtual 55, 3) := by decide +kernel
theorem dX4_play_110 : decode cX4_play 110 = .ok (.iload 4, 2) := by decide +kernel
theorem dX4_play_112 : decode cX4_play 112 = .ok (.ireturn, 1) := by decide +kernel
theorem dX4_rest_0 : decode cX4_rest 0 = .ok (.iconst 0, 1) := by decide +kernel
theorem dX4_rest_1 : decode cX4_rest 1 = .ok (.istore_n 1, 1) := by decide +kernel
theorem dX4_rest_2 : decode cX4_rest 2 = .ok (.iconst 0, 1) := by decide +kernel
theorem dX4_rest_3 : decode cX4_rest 3 = .ok (.istore_n 2, 1) := by decide +kernel
theorem dX4_rest_4 : decode cX4_rest 4 = .ok (.iload_n 2, 1) := by decide +kernel
theorem dX4_rest_5 : decode cX4_rest 5 = .ok (.bipush 12, 2) := by decide +kernel
theorem dX4_rest_7 : decode cX4_rest 7 = .ok (.if_icmp .ge 174, 3) := by decide +kernel
theorem dX4_rest_10 : decode cX4_rest 10 = .ok (.iload_n 1, 1) := by decide +kernel
theorem dX4_rest_11 : decode cX4_rest 11 = .ok (.aload_n 0, 1) := by decide +kernel
theorem dX4_rest_12 : decode cX4_rest 12 = .ok (.getfield 13, 3) := by decide +kernel
theorem dX4_rest_15 : decode cX4_rest 15 = .ok (.iload_n 2, 1) := by decide +kernel
theorem dX4_rest_16 : decode cX4_rest 16 = .ok (.iaload, 1) := by decide +kernel
theorem dX4_rest_17 : decode cX4_rest 17 = .ok (.bipush 9, 2) := by decide +kernel
theorem dX4_rest_19 : decode cX4_rest 19 = .ok (.if_icmp .le 25, 3) := by decide +kernel
theorem dX4_rest_22 : decode cX4_rest 22 = .ok (.aload_n 0, 1) := by decide +kernel
theorem dX4_rest_23 : decode cX4_rest 23 = .ok (.getfield 24, 3) := by decide +kernel
theorem dX4_rest_26 : decode cX4_rest 26 = .ok (.iload_n 2, 1) := by decide +kernel
theorem dX4_rest_27 : decode cX4_rest 27 = .ok (.baload, 1) := by decide +kernel
theorem dX4_rest_28 : decode cX4_rest 28 = .ok (.ifCond .ne 16, 3) := by decide +kernel
theorem dX4_rest_31 : decode cX4_rest 31 = .ok (.aload_n 0, 1) := by decide +kernel
theorem dX4_rest_32 : decode cX4_rest 32 = .ok (.getfield 20, 3) := by decide +kernel
theorem dX4_rest_35 : decode cX4_rest 35 = .ok (.iload_n 2, 1) := by decide +kernel
theorem dX4_rest_36 : decode cX4_rest 36 = .ok (.baload, 1) := by decide +kernel
theorem dX4_rest_37 : decode cX4_rest 37 = .ok (.ifCond .ne 7, 3) := by decide +kernel
theorem dX4_rest_40 : decode cX4_rest 40 = .ok (.iconst 1, 1) := by decide +kernel
theorem dX4_rest_41 : decode cX4_rest 41 = .ok (.goto 4, 3) := by decide +kernel
theorem dX4_rest_44 : decode cX4_rest 44 = .ok (.iconst 0, 1) := by decide +kernel
theorem dX4_rest_45 : decode cX4_rest 45 = .ok (.iadd, 1) := by decide +kernel
theorem dX4_rest_46 : decode cX4_rest 46 = .ok (.istore_n 1, 1) := by decide +kernel
theorem dX4_rest_47 : decode cX4_rest 47 = .ok (.aload_n 0, 1) := by decide +kernel
theorem dX4_rest_48 : decode cX4_rest 48 = .ok (.getfield 20, 3) := by decide +kernel
theorem dX4_rest_51 : decode cX4_rest 51 = .ok (.iload_n 2, 1) := by decide +kernel
theorem dX4_rest_52 : decode cX4_rest 52 = .ok (.dup2, 1) := by decide +kernel
theorem dX4_rest_53 : decode cX4_rest 53 = .ok (.baload, 1) := by decide +kernel
theorem dX4_rest_54 : decode cX4_rest 54 = .ok (.aload_n 0, 1) := by decide +kernel
theorem dX4_rest_55 : decode cX4_rest 55 = .ok (.getfield 13, 3) := by decide +kernel
theorem dX4_rest_58 : decode cX4_rest 58 = .ok (.iload_n 2, 1) := by decide +kernel
theorem dX4_rest_59 : decode cX4_rest 59 = .ok (.iaload, 1) := by decide +kernel
theorem dX4_rest_60 : decode cX4_rest 60 = .ok (.bipush 9, 2) := by decide +kernel
theorem dX4_rest_62 : decode cX4_rest 62 = .ok (.if_icmp .le 16, 3) := by decide +kernel
theorem dX4_rest_65 : decode cX4_rest 65 = .ok (.aload_n 0, 1) := by decide +kernel
theorem dX4_rest_66 : decode cX4_rest 66 = .ok (.getfield 24, 3) := by decide +kernel
theorem dX4_rest_69 : decode cX4_rest 69 = .ok (.iload_n 2, 1) := by decide +kernel
theorem dX4_rest_70 : decode cX4_rest 70 = .ok (.baload, 1) := by decide +kernel
theorem dX4_rest_71 : decode cX4_rest 71 = .ok (.ifCond .ne 7, 3) := by decide +kernel
theorem dX4_rest_74 : decode cX4_rest 74 = .ok (.iconst 1, 1) := by decide +kernel
theorem dX4_rest_75 : decode cX4_rest 75 = .ok (.goto 4, 3) := by decide +kernel
theorem dX4_rest_78 : decode cX4_rest 78 = .ok (.iconst 0, 1) := by decide +kernel
theorem dX4_rest_79 : decode cX4_rest 79 = .ok (.ior, 1) := by decide +kernel
theorem dX4_rest_80 : decode cX4_rest 80 = .ok (.bastore, 1) := by decide +kernel
theorem dX4_rest_81 : decode cX4_rest 81 = .ok (.aload_n 0, 1) := by decide +kernel
theorem dX4_rest_82 : decode cX4_rest 82 = .ok (.getfield 24, 3) := by decide +kernel
theorem dX4_rest_85 : decode cX4_rest 85 = .ok (.iload_n 2, 1) := by decide +kernel
theorem dX4_rest_86 : decode cX4_rest 86 = .ok (.iconst 0, 1) := by decide +kernel
theorem dX4_rest_87 : decode cX4_rest 87 = .ok (.bastore, 1) := by decide +kernel
theorem dX4_rest_88 : decode cX4_rest 88 = .ok (.aload_n 0, 1) := by decide +kernel
theorem dX4_rest_89 : decode cX4_rest 89 = .ok (.getfield 17, 3) := by decide +kernel
theorem dX4_rest_92 : decode cX4_rest 92 = .ok (.iload_n 2, 1) := by decide +kernel
theorem dX4_rest_93 : decode cX4_rest 93 = .ok (.dup2, 1) := by decide +kernel
theorem dX4_rest_94 : decode cX4_rest 94 = .ok (.iaload, 1) := by decide +kernel
theorem dX4_rest_95 : decode cX4_rest 95 = .ok (.iload_n 2, 1) := by decide +kernel
theorem dX4_rest_96 : decode cX4_rest 96 = .ok (.iconst 2, 1) := by decide +kernel
theorem dX4_rest_97 : decode cX4_rest 97 = .ok (.irem, 1) := by decide +kernel
theorem dX4_rest_98 : decode cX4_rest 98 = .ok (.ifCond .ne 18, 3) := by decide +kernel
theorem dX4_rest_101 : decode cX4_rest 101 = .ok (.aload_n 0, 1) := by decide +kernel
theorem dX4_rest_102 : decode cX4_rest 102 = .ok (.getfield 35, 3) := by decide +kernel
theorem dX4_rest_105 : decode cX4_rest 105 = .ok (.aload_n 0, 1) := by decide +kernel
theorem dX4_rest_106 : decode cX4_rest 106 = .ok (.getfield 45, 3) := by decide +kernel
theorem dX4_rest_109 : decode cX4_rest 109 = .ok (.bipush 7, 2) := by decide +kernel
theorem dX4_rest_111 : decode cX4_rest 111 = .ok (.irem, 1) := by decide +kernel
theorem dX4_rest_112 : decode cX4_rest 112 = .ok (.iaload, 1) := by decide +kernel
theorem dX4_rest_113 : decode cX4_rest 113 = .ok (.goto 16, 3) := by decide +kernel
theorem dX4_rest_116 : decode cX4_rest 116 = .ok (.aload_n 0, 1) := by decide +kernel
theorem dX4_rest_117 : decode cX4_rest 117 = .ok (.getfield 35, 3) := by decide +kernel
theorem dX4_rest_120 : decode cX4_rest 120 = .ok (.aload_n 0, 1) := by decide +kernel
theorem dX4_rest_121 : decode cX4_rest 121 = .ok (.getfield 45, 3) := by decide +kernel
theorem dX4_rest_124 : decode cX4_rest 124 = .ok (.bipush 7, 2) := by decide +kernel
theorem dX4_rest_126 : decode cX4_rest 126 = .ok (.irem, 1) := by decide +kernel
theorem dX4_rest_127 : decode cX4_rest 127 = .ok (.iaload, 1) := by decide +kernel
theorem dX4_rest_128 : decode cX4_rest 128 = .ok (.ineg, 1) := by decide +kernel
theorem dX4_rest_129 : decode cX4_rest 129 = .ok (.iadd, 1) := by decide +kernel
theorem dX4_rest_130 : decode cX4_rest 130 = .ok (.iastore, 1) := by decide +kernel
theorem dX4_rest_131 : decode cX4_rest 131 = .ok (.aload_n 0, 1) := by decide +kernel
theorem dX4_rest_132 : decode cX4_rest 132 = .ok (.getfield 17, 3) := by decide +kernel
theorem dX4_rest_135 : decode cX4_rest 135 = .ok (.iload_n 2, 1) := by decide +kernel
theorem dX4_rest_136 : decode cX4_rest 136 = .ok (.aload_n 0, 1) := by decide +kernel
theorem dX4_rest_137 : decode cX4_rest 137 = .ok (.getfield 17, 3) := by decide +kernel
theorem dX4_rest_140 : decode cX4_rest 140 = .ok (.iload_n 2, 1) := by decide +kernel
theorem dX4_rest_141 : decode cX4_rest 141 = .ok (.iaload, 1) := by decide +kernel
theorem dX4_rest_142 : decode cX4_rest 142 = .ok (.bipush 60, 2) := by decide +kernel
theorem dX4_rest_144 : decode cX4_rest 144 = .ok (.if_icmp .le 8, 3) := by decide +kernel
theorem dX4_rest_147 : decode cX4_rest 147 = .ok (.bipush 60, 2) := by decide +kernel
theorem dX4_rest_149 : decode cX4_rest 149 = .ok (.goto 25, 3) := by decide +kernel
theorem dX4_rest_152 : decode cX4_rest 152 = .ok (.aload_n 0, 1) := by decide +kernel
theorem dX4_rest_153 : decode cX4_rest 153 = .ok (.getfield 17, 3) := by decide +kernel
theorem dX4_rest_156 : decode cX4_rest 156 = .ok (.iload_n 2, 1) := by decide +kernel
theorem dX4_rest_157 : decode cX4_rest 157 = .ok (.iaload, 1) := by decide +kernel
theorem dX4_rest_158 : decode cX4_rest 158 = .ok (.bipush (-60), 2) := by decide +kernel
theorem dX4_rest_160 : decode cX4_rest 160 = .ok (.if_icmp .ge 8, 3) := by decide +kernel
theorem dX4_rest_163 : decode cX4_rest 163 = .ok (.bipush (-60), 2) := by decide +kernel
theorem dX4_rest_165 : decode cX4_rest 165 = .ok (.goto 9, 3) := by decide +kernel
theorem dX4_rest_168 : decode cX4_rest 168 = .ok (.aload_n 0, 1) := by decide +kernel
theorem dX4_rest_169 : decode cX4_rest 169 = .ok (.getfield 17, 3) := by decide +kernel
theorem dX4_rest_172 : decode cX4_rest 172 = .ok (.iload_n 2, 1) := by decide +kernel
theorem dX4_rest_173 : decode cX4_rest 173 = .ok (.iaload, 1) := by decide +kernel
theorem dX4_rest_174 : decode cX4_rest 174 = .ok (.iastore, 1) := by decide +kernel
theorem dX4_rest_175 : decode cX4_rest 175 = .ok (.iinc 2 1, 3) := by decide +kernel
theorem dX4_rest_178 : decode cX4_rest 178 = .ok (.goto (-174), 3) := by decide +kernel
theorem dX4_rest_181 : decode cX4_rest 181 = .ok (.aload_n 0, 1) := by decide +kernel
theorem dX4_rest_182 : decode cX4_rest 182 = .ok (.getfield 32, 3) := by decide +kernel
theorem dX4_rest_185 : decode cX4_rest 185 = .ok (.astore_n 2, 1) := by decide +kernel
theorem dX4_rest_186 : decode cX4_rest 186 = .ok (.aload_n 2, 1) := by decide +kernel
theorem dX4_rest_187 : decode cX4_rest 187 = .ok (.arraylength, 1) := by decide +kernel
theorem dX4_rest_188 : decode cX4_rest 188 = .ok (.istore_n 3, 1) := by decide +kernel
theorem dX4_rest_189 : decode cX4_rest 189 = .ok (.iconst 0, 1) := by decide +kernel
theorem dX4_rest_190 : decode cX4_rest 190 = .ok (.istore 4, 2) := by decide +kernel
theorem dX4_rest_192 : decode cX4_rest 192 = .ok (.iload 4, 2) := by decide +kernel
theorem dX4_rest_194 : decode cX4_rest 194 = .ok (.iload_n 3, 1) := by decide +kernel
theorem dX4_rest_195 : decode cX4_rest 195 = .ok (.if_icmp .ge 37, 3) := by decide +kernel
theorem dX4_rest_198 : decode cX4_rest 198 = .ok (.aload_n 2, 1) := by decide +kernel
theorem dX4_rest_199 : decode cX4_rest 199 = .ok (.iload 4, 2) := by decide +kernel
theorem dX4_rest_201 : decode cX4_rest 201 = .ok (.aaload, 1) := by decide +kernel
theorem dX4_rest_202 : decode cX4_rest 202 = .ok (.astore 5, 2) := by decide +kernel
theorem dX4_rest_204 : decode cX4_rest 204 = .ok (.iconst 3, 1) := by decide +kernel
theorem dX4_rest_205 : decode cX4_rest 205 = .ok (.istore 6, 2) := by decide +kernel
theorem dX4_rest_207 : decode cX4_rest 207 = .ok (.iload 6, 2) := by decide +kernel
theorem dX4_rest_209 : decode cX4_rest 209 = .ok (.bipush 9, 2) := by decide +kernel
theorem dX4_rest_211 : decode cX4_rest 211 = .ok (.if_icmp .ge 15, 3) := by decide +kernel
theorem dX4_rest_214 : decode cX4_rest 214 = .ok (.aload 5, 2) := by decide +kernel
theorem dX4_rest_216 : decode cX4_rest 216 = .ok (.iload 6, 2) := by decide +kernel
theorem dX4_rest_218 : decode cX4_rest 218 = .ok (.iconst 0, 1) := by decide +kernel
theorem dX4_rest_219 : decode cX4_rest 219 = .ok (.iastore, 1) := by decide +kernel
theorem dX4_rest_220 : decode cX4_rest 220 = .ok (.iinc 6 1, 3) := by decide +kernel
theorem dX4_rest_223 : decode cX4_rest 223 = .ok (.goto (-16), 3) := by decide +kernel
theorem dX4_rest_226 : decode cX4_rest 226 = .ok (.iinc 4 1, 3) := by decide +kernel
theorem dX4_rest_229 : decode cX4_rest 229 = .ok (.goto (-37), 3) := by decide +kernel
theorem dX4_rest_232 : decode cX4_rest 232 = .ok (.aload_n 0, 1) := by decide +kernel
theorem dX4_rest_233 : decode cX4_rest 233 = .ok (.dup, 1) := by decide +kernel
theorem dX4_rest_234 : decode cX4_rest 234 = .ok (.getfield 45, 3) := by decide +kernel
theorem dX4_rest_237 : decode cX4_rest 237 = .ok (.iconst 1, 1) := by decide +kernel
theorem dX4_rest_238 : decode cX4_rest 238 = .ok (.iadd, 1) := by decide +kernel
theorem dX4_rest_239 : decode cX4_rest 239 = .ok (.putfield 45, 3) := by decide +kernel
theorem dX4_rest_242 : decode cX4_rest 242 = .ok (.iload_n 1, 1) := by decide +kernel
theorem dX4_rest_243 : decode cX4_rest 243 = .ok (.ireturn, 1) := by decide +kernel
theorem dX4_crickets_0 : decode cX4_crickets 0 = .ok (.iconst 0, 1) := by decide +kernel
theorem dX4_crickets_1 : decode cX4_crickets 1 = .ok (.istore_n 1, 1) := by decide +kernel
theorem dX4_crickets_2 : decode cX4_crickets 2 = .ok (.aload_n 0, 1) := by decide +kernel
theorem dX4_crickets_3 : decode cX4_crickets 3 = .ok (.getfield 20, 3) := by decide +kernel
theorem dX4_crickets_6 : decode cX4_crickets 6 = .ok (.astore_n 2, 1) := by decide +kernel
theorem dX4_crickets_7 : decode cX4_crickets 7 = .ok (.aload_n 2, 1) := by decide +kernel
theorem dX4_crickets_8 : decode cX4_crickets 8 = .ok (.arraylength, 1) := by decide +kernel
theorem dX4_crickets_9 : decode cX4_crickets 9 = .ok (.istore_n 3, 1) := by decide +kernel
theorem dX4_crickets_10 : decode cX4_crickets 10 = .ok (.iconst 0, 1) := by decide +kernel
theorem dX4_crickets_11 : decode cX4_crickets 11 = .ok (.istore 4, 2) := by decide +kernel
theorem dX4_crickets_13 : decode cX4_crickets 13 = .ok (.iload 4, 2) := by decide +kernel
theorem dX4_crickets_15 : decode cX4_crickets 15 = .ok (.iload_n 3, 1) := by decide +kernel
theorem dX4_crickets_16 : decode cX4_crickets 16 = .ok (.if_icmp .ge 28, 3) := by decide +kernel
theorem dX4_crickets_19 : decode cX4_crickets 19 = .ok (.aload_n 2, 1) := by decide +kernel
theorem dX4_crickets_20 : decode cX4_crickets 20 = .ok (.iload 4, 2) := by decide +kernel
theorem dX4_crickets_22 : decode cX4_crickets 22 = .ok (.baload, 1) := by decide +kernel
theorem dX4_crickets_23 : decode cX4_crickets 23 = .ok (.istore 5, 2) := by decide +kernel
theorem dX4_crickets_25 : decode cX4_crickets 25 = .ok (.iload_n 1, 1) := by decide +kernel
theorem dX4_crickets_26 : decode cX4_crickets 26 = .ok (.iload 5, 2) := by decide +kernel
theorem dX4_crickets_28 : decode cX4_crickets 28 = .ok (.ifCond .eq 7, 3) := by decide +kernel
theorem dX4_crickets_31 : decode cX4_crickets 31 = .ok (.iconst 1, 1) := by decide +kernel
theorem dX4_crickets_32 : decode cX4_crickets 32 = .ok (.goto 4, 3) := by decide +kernel
theorem dX4_crickets_35 : decode cX4_crickets 35 = .ok (.iconst 0, 1) := by decide +kernel
theorem dX4_crickets_36 : decode cX4_crickets 36 = .ok (.iadd, 1) := by decide +kernel
theorem dX4_crickets_37 : decode cX4_crickets 37 = .ok (.istore_n 1, 1) := by decide +kernel
theorem dX4_crickets_38 : decode cX4_crickets 38 = .ok (.iinc 4 1, 3) := by decide +kernel
theorem dX4_crickets_41 : decode cX4_crickets 41 = .ok (.goto (-28), 3) := by decide +kernel
theorem dX4_crickets_44 : decode cX4_crickets 44 = .ok (.iload_n 1, 1) := by decide +kernel
theorem dX4_crickets_45 : decode cX4_crickets 45 = .ok (.ireturn, 1) := by decide +kernel
theorem dX4_sum_0 : decode cX4_sum 0 = .ok (.iconst 0, 1) := by decide +kernel
theorem dX4_sum_1 : decode cX4_sum 1 = .ok (.istore_n 2, 1) := by decide +kernel
theorem dX4_sum_2 : decode cX4_sum 2 = .ok (.aload_n 1, 1) := by decide +kernel
theorem dX4_sum_3 : decode cX4_sum 3 = .ok (.astore_n 3, 1) := by decide +kernel
theorem dX4_sum_4 : decode cX4_sum 4 = .ok (.aload_n 3, 1) := by decide +kernel
theorem dX4_sum_5 : decode cX4_sum 5 = .ok (.arraylength, 1) := by decide +kernel
theorem dX4_sum_6 : decode cX4_sum 6 = .ok (.istore 4, 2) := by decide +kernel
theorem dX4_sum_8 : decode cX4_sum 8 = .ok (.iconst 0, 1) := by decide +kernel
theorem dX4_sum_9 : decode cX4_sum 9 = .ok (.istore 5, 2) := by decide +kernel
theorem dX4_sum_11 : decode cX4_sum 11 = .ok (.iload 5, 2) := by decide +kernel
theorem dX4_sum_13 : decode cX4_sum 13 = .ok (.iload 4, 2) := by decide +kernel
theorem dX4_sum_15 : decode cX4_sum 15 = .ok (.if_icmp .ge 31, 3) := by decide +kernel
theorem dX4_sum_18 : decode cX4_sum 18 = .ok (.aload_n 3, 1) := by decide +kernel
theorem dX4_sum_19 : decode cX4_sum 19 = .ok (.iload 5, 2) := by decide +kernel
theorem dX4_sum_21 : decode cX4_sum 21 = .ok (.iaload, 1) := by decide +kernel
theorem dX4_sum_22 : decode cX4_sum 22 = .ok (.istore 6, 2) := by decide +kernel
theorem dX4_sum_24 : decode cX4_sum 24 = .ok (.iload_n 2, 1) := by decide +kernel
theorem dX4_sum_25 : decode cX4_sum 25 = .ok (.iload 6, 2) := by decide +kernel
theorem dX4_sum_27 : decode cX4_sum 27 = .ok (.ifCond .ge 9, 3) := by decide +kernel
theorem dX4_sum_30 : decode cX4_sum 30 = .ok (.iload 6, 2) := by decide +kernel
theorem dX4_sum_32 : decode cX4_sum 32 = .ok (.ineg, 1) := by decide +kernel
theorem dX4_sum_33 : decode cX4_sum 33 = .ok (.goto 5, 3) := by decide +kernel
theorem dX4_sum_36 : decode cX4_sum 36 = .ok (.iload 6, 2) := by decide +kernel
theorem dX4_sum_38 : decode cX4_sum 38 = .ok (.iadd, 1) := by decide +kernel
theorem dX4_sum_39 : decode cX4_sum 39 = .ok (.istore_n 2, 1) := by decide +kernel
theorem dX4_sum_40 : decode cX4_sum 40 = .ok (.iinc 5 1, 3) := by decide +kernel
theorem dX4_sum_43 : decode cX4_sum 43 = .ok (.goto (-32), 3) := by decide +kernel
theorem dX4_sum_46 : decode cX4_sum 46 = .ok (.iload_n 2, 1) := by decide +kernel
theorem dX4_sum_47 : decode cX4_sum 47 = .ok (.ireturn, 1) := by decide +kernel
theorem dX4_isSame_0 : decode cX4_isSame 0 = .ok (.bipush 9, 2) := by decide +kernel
theorem dX4_isSame_2 : decode cX4_isSame 2 = .ok (.newarray .int, 2) := by decide +kernel
theorem dX4_isSame_4 : decode cX4_isSame 4 = .ok (.dup, 1) := by decide +kernel
theorem dX4_isSame_5 : decode cX4_isSame 5 = .ok (.iconst 0, 1) := by decide +kernel
theorem dX4_isSame_6 : decode cX4_isSame 6 = .ok (.aload_n 0, 1) := by decide +kernel
theorem dX4_isSame_7 : decode cX4_isSame 7 = .ok (.getfield 45, 3) := by decide +kernel
theorem dX4_isSame_10 : decode cX4_isSame 10 = .ok (.iastore, 1) := by decide +kernel
theorem dX4_isSame_11 : decode cX4_isSame 11 = .ok (.dup, 1) := by decide +kernel
theorem dX4_isSame_12 : decode cX4_isSame 12 = .ok (.iconst 1, 1) := by decide +kernel
theorem dX4_isSame_13 : decode cX4_isSame 13 = .ok (.aload_n 0, 1) := by decide +kernel
theorem dX4_isSame_14 : decode cX4_isSame 14 = .ok (.getfield 45, 3) := by decide +kernel
theorem dX4_isSame_17 : decode cX4_isSame 17 = .ok (.bipush 7, 2) := by decide +kernel
theorem dX4_isSame_19 : decode cX4_isSame 19 = .ok (.irem, 1) := by decide +kernel
theorem dX4_isSame_20 : decode cX4_isSame 20 = .ok (.iastore, 1) := by decide +kernel
theorem dX4_isSame_21 : decode cX4_isSame 21 = .ok (.dup, 1) := by decide +kernel
theorem dX4_isSame_22 : decode cX4_isSame 22 = .ok (.iconst 2, 1) := by decide +kernel
theorem dX4_isSame_23 : decode cX4_isSame 23 = .ok (.aload_n 0, 1) := by decide +kernel
theorem dX4_isSame_24 : decode cX4_isSame 24 = .ok (.getfield 7, 3) := by decide +kernel
theorem dX4_isSame_27 : decode cX4_isSame 27 = .ok (.iastore, 1) := by decide +kernel
theorem dX4_isSame_28 : decode cX4_isSame 28 = .ok (.dup, 1) := by decide +kernel
theorem dX4_isSame_29 : decode cX4_isSame 29 = .ok (.iconst 3, 1) := by decide +kernel
theorem dX4_isSame_30 : decode cX4_isSame 30 = .ok (.aload_n 0, 1) := by decide +kernel
theorem dX4_isSame_31 : decode cX4_isSame 31 = .ok (.getfield 28, 3) := by decide +kernel
theorem dX4_isSame_34 : decode cX4_isSame 34 = .ok (.arraylength, 1) := by decide +kernel
theorem dX4_isSame_35 : decode cX4_isSame 35 = .ok (.iastore, 1) := by decide +kernel
theorem dX4_isSame_36 : decode cX4_isSame 36 = .ok (.dup, 1) := by decide +kernel
theorem dX4_isSame_37 : decode cX4_isSame 37 = .ok (.iconst 4, 1) := by decide +kernel
theorem dX4_isSame_38 : decode cX4_isSame 38 = .ok (.aload_n 0, 1) := by decide +kernel
theorem dX4_isSame_39 : decode cX4_isSame 39 = .ok (.getfield 32, 3) := by decide +kernel
theorem dX4_isSame_42 : decode cX4_isSame 42 = .ok (.arraylength, 1) := by decide +kernel
theorem dX4_isSame_43 : decode cX4_isSame 43 = .ok (.iastore, 1) := by decide +kernel
theorem dX4_isSame_44 : decode cX4_isSame 44 = .ok (.dup, 1) := by decide +kernel
theorem dX4_isSame_45 : decode cX4_isSame 45 = .ok (.iconst 5, 1) := by decide +kernel
theorem dX4_isSame_46 : decode cX4_isSame 46 = .ok (.aload_n 0, 1) := by decide +kernel
theorem dX4_isSame_47 : decode cX4_isSame 47 = .ok (.invokevirtual 66, 3) := by decide +kernel
theorem dX4_isSame_50 : decode cX4_isSame 50 = .ok (.iastore, 1) := by decide +kernel
theorem dX4_isSame_51 : decode cX4_isSame 51 = .ok (.dup, 1) := by decide +kernel
theorem dX4_isSame_52 : decode cX4_isSame 52 = .ok (.bipush 6, 2) := by decide +kernel
theorem dX4_isSame_54 : decode cX4_isSame 54 = .ok (.aload_n 0, 1) := by decide +kernel
theorem dX4_isSame_55 : decode cX4_isSame 55 = .ok (.aload_n 0, 1) := by decide +kernel
theorem dX4_isSame_56 : decode cX4_isSame 56 = .ok (.getfield 13, 3) := by decide +kernel
theorem dX4_isSame_59 : decode cX4_isSame 59 = .ok (.invokevirtual 70, 3) := by decide +kernel
theorem dX4_isSame_62 : decode cX4_isSame 62 = .ok (.iastore, 1) := by decide +kernel
theorem dX4_isSame_63 : decode cX4_isSame 63 = .ok (.dup, 1) := by decide +kernel
theorem dX4_isSame_64 : decode cX4_isSame 64 = .ok (.bipush 7, 2) := by decide +kernel
theorem dX4_isSame_66 : decode cX4_isSame 66 = .ok (.aload_n 0, 1) := by decide +kernel
theorem dX4_isSame_67 : decode cX4_isSame 67 = .ok (.aload_n 0, 1) := by decide +kernel
theorem dX4_isSame_68 : decode cX4_isSame 68 = .ok (.getfield 17, 3) := by decide +kernel
theorem dX4_isSame_71 : decode cX4_isSame 71 = .ok (.invokevirtual 70, 3) := by decide +kernel
theorem dX4_isSame_74 : decode cX4_isSame 74 = .ok (.iastore, 1) := by decide +kernel
theorem dX4_isSame_75 : decode cX4_isSame 75 = .ok (.dup, 1) := by decide +kernel
theorem dX4_isSame_76 : decode cX4_isSame 76 = .ok (.bipush 8, 2) := by decide +kernel
theorem dX4_isSame_78 : decode cX4_isSame 78 = .ok (.aload_n 0, 1) := by decide +kernel
theorem dX4_isSame_79 : decode cX4_isSame 79 = .ok (.getfield 48, 3) := by decide +kernel
theorem dX4_isSame_82 : decode cX4_isSame 82 = .ok (.iastore, 1) := by decide +kernel
theorem dX4_isSame_83 : decode cX4_isSame 83 = .ok (.astore_n 2, 1) := by decide +kernel
theorem dX4_isSame_84 : decode cX4_isSame 84 = .ok (.iconst 0, 1) := by decide +kernel
theorem dX4_isSame_85 : decode cX4_isSame 85 = .ok (.istore_n 3, 1) := by decide +kernel
theorem dX4_isSame_86 : decode cX4_isSame 86 = .ok (.iload_n 3, 1) := by decide +kernel
theorem dX4_isSame_87 : decode cX4_isSame 87 = .ok (.bipush 9, 2) := by decide +kernel
theorem dX4_isSame_89 : decode cX4_isSame 89 = .ok (.if_icmp .ge 22, 3) := by decide +kernel
theorem dX4_isSame_92 : decode cX4_isSame 92 = .ok (.aload_n 1, 1) := by decide +kernel
theorem dX4_isSame_93 : decode cX4_isSame 93 = .ok (.iload_n 3, 1) := by decide +kernel
theorem dX4_isSame_94 : decode cX4_isSame 94 = .ok (.invokevirtual 74, 3) := by decide +kernel
theorem dX4_isSame_97 : decode cX4_isSame 97 = .ok (.aload_n 2, 1) := by decide +kernel
theorem dX4_isSame_98 : decode cX4_isSame 98 = .ok (.iload_n 3, 1) := by decide +kernel
theorem dX4_isSame_99 : decode cX4_isSame 99 = .ok (.iaload, 1) := by decide +kernel
theorem dX4_isSame_100 : decode cX4_isSame 100 = .ok (.if_icmp .eq 5, 3) := by decide +kernel
theorem dX4_isSame_103 : decode cX4_isSame 103 = .ok (.iconst 0, 1) := by decide +kernel
theorem dX4_isSame_104 : decode cX4_isSame 104 = .ok (.ireturn, 1) := by decide +kernel
theorem dX4_isSame_105 : decode cX4_isSame 105 = .ok (.iinc 3 1, 3) := by decide +kernel
theorem dX4_isSame_108 : decode cX4_isSame 108 = .ok (.goto (-22), 3) := by decide +kernel
theorem dX4_isSame_111 : decode cX4_isSame 111 = .ok (.iconst 0, 1) := by decide +kernel
theorem dX4_isSame_112 : decode cX4_isSame 112 = .ok (.istore_n 3, 1) := by decide +kernel
theorem dX4_isSame_113 : decode cX4_isSame 113 = .ok (.iload_n 3, 1) := by decide +kernel
theorem dX4_isSame_114 : decode cX4_isSame 114 = .ok (.bipush 12, 2) := by decide +kernel
theorem dX4_isSame_116 : decode cX4_isSame 116 = .ok (.if_icmp .ge 106, 3) := by decide +kernel
theorem dX4_isSame_119 : decode cX4_isSame 119 = .ok (.iconst 5, 1) := by decide +kernel
theorem dX4_isSame_120 : decode cX4_isSame 120 = .ok (.newarray .int, 2) := by decide +kernel
theorem dX4_isSame_122 : decode cX4_isSame 122 = .ok (.dup, 1) := by decide +kernel
theorem dX4_isSame_123 : decode cX4_isSame 123 = .ok (.iconst 0, 1) := by decide +kernel
theorem dX4_isSame_124 : decode cX4_isSame 124 = .ok (.aload_n 0, 1) := by decide +kernel
theorem dX4_isSame_125 : decode cX4_isSame 125 = .ok (.getfield 13, 3) := by decide +kernel
theorem dX4_isSame_128 : decode cX4_isSame 128 = .ok (.iload_n 3, 1) := by decide +kernel
theorem dX4_isSame_129 : decode cX4_isSame 129 = .ok (.iaload, 1) := by decide +kernel
theorem dX4_isSame_130 : decode cX4_isSame 130 = .ok (.iastore, 1) := by decide +kernel
theorem dX4_isSame_131 : decode cX4_isSame 131 = .ok (.dup, 1) := by decide +kernel
theorem dX4_isSame_132 : decode cX4_isSame 132 = .ok (.iconst 1, 1) := by decide +kernel
theorem dX4_isSame_133 : decode cX4_isSame 133 = .ok (.aload_n 0, 1) := by decide +kernel
theorem dX4_isSame_134 : decode cX4_isSame 134 = .ok (.getfield 17, 3) := by decide +kernel
theorem dX4_isSame_137 : decode cX4_isSame 137 = .ok (.iload_n 3, 1) := by decide +kernel
theorem dX4_isSame_138 : decode cX4_isSame 138 = .ok (.iaload, 1) := by decide +kernel
theorem dX4_isSame_139 : decode cX4_isSame 139 = .ok (.iastore, 1) := by decide +kernel
theorem dX4_isSame_140 : decode cX4_isSame 140 = .ok (.dup, 1) := by decide +kernel
theorem dX4_isSame_141 : decode cX4_isSame 141 = .ok (.iconst 2, 1) := by decide +kernel
theorem dX4_isSame_142 : decode cX4_isSame 142 = .ok (.aload_n 0, 1) := by decide +kernel
theorem dX4_isSame_143 : decode cX4_isSame 143 = .ok (.getfield 20, 3) := by decide +kernel
theorem dX4_isSame_146 : decode cX4_isSame 146 = .ok (.iload_n 3, 1) := by decide +kernel
theorem dX4_isSame_147 : decode cX4_isSame 147 = .ok (.baload, 1) := by decide +kernel
theorem dX4_isSame_148 : decode cX4_isSame 148 = .ok (.ifCond .eq 7, 3) := by decide +kernel
theorem dX4_isSame_151 : decode cX4_isSame 151 = .ok (.iconst 1, 1) := by decide +kernel
theorem dX4_isSame_152 : decode cX4_isSame 152 = .ok (.goto 4, 3) := by decide +kernel
theorem dX4_isSame_155 : decode cX4_isSame 155 = .ok (.iconst 0, 1) := by decide +kernel
theorem dX4_isSame_156 : decode cX4_isSame 156 = .ok (.iastore, 1) := by decide +kernel
theorem dX4_isSame_157 : decode cX4_isSame 157 = .ok (.dup, 1) := by decide +kernel
theorem dX4_isSame_158 : decode cX4_isSame 158 = .ok (.iconst 3, 1) := by decide +kernel
theorem dX4_isSame_159 : decode cX4_isSame 159 = .ok (.aload_n 0, 1) := by decide +kernel
theorem dX4_isSame_160 : decode cX4_isSame 160 = .ok (.iload_n 3, 1) := by decide +kernel
theorem dX4_isSame_161 : decode cX4_isSame 161 = .ok (.invokevirtual 38, 3) := by decide +kernel
theorem dX4_isSame_164 : decode cX4_isSame 164 = .ok (.iastore, 1) := by decide +kernel
theorem dX4_isSame_165 : decode cX4_isSame 165 = .ok (.dup, 1) := by decide +kernel
theorem dX4_isSame_166 : decode cX4_isSame 166 = .ok (.iconst 4, 1) := by decide +kernel
theorem dX4_isSame_167 : decode cX4_isSame 167 = .ok (.aload_n 0, 1) := by decide +kernel
theorem dX4_isSame_168 : decode cX4_isSame 168 = .ok (.getfield 24, 3) := by decide +kernel
theorem dX4_isSame_171 : decode cX4_isSame 171 = .ok (.iload_n 3, 1) := by decide +kernel
theorem dX4_isSame_172 : decode cX4_isSame 172 = .ok (.baload, 1) := by decide +kernel
theorem dX4_isSame_173 : decode cX4_isSame 173 = .ok (.ifCond .eq 7, 3) := by decide +kernel
theorem dX4_isSame_176 : decode cX4_isSame 176 = .ok (.iconst 1, 1) := by decide +kernel
theorem dX4_isSame_177 : decode cX4_isSame 177 = .ok (.goto 4, 3) := by decide +kernel
theorem dX4_isSame_180 : decode cX4_isSame 180 = .ok (.iconst 0, 1) := by decide +kernel
theorem dX4_isSame_181 : decode cX4_isSame 181 = .ok (.iastore, 1) := by decide +kernel
theorem dX4_isSame_182 : decode cX4_isSame 182 = .ok (.astore 4, 2) := by decide +kernel
theorem dX4_isSame_184 : decode cX4_isSame 184 = .ok (.iconst 0, 1) := by decide +kernel
theorem dX4_isSame_185 : decode cX4_isSame 185 = .ok (.istore 5, 2) := by decide +kernel
theorem dX4_isSame_187 : decode cX4_isSame 187 = .ok (.iload 5, 2) := by decide +kernel
theorem dX4_isSame_189 : decode cX4_isSame 189 = .ok (.iconst 5, 1) := by decide +kernel
theorem dX4_isSame_190 : decode cX4_isSame 190 = .ok (.if_icmp .ge 26, 3) := by decide +kernel
theorem dX4_isSame_193 : decode cX4_isSame 193 = .ok (.aload_n 1, 1) := by decide +kernel
theorem dX4_isSame_194 : decode cX4_isSame 194 = .ok (.iload_n 3, 1) := by decide +kernel
theorem dX4_isSame_195 : decode cX4_isSame 195 = .ok (.iload 5, 2) := by decide +kernel
theorem dX4_isSame_197 : decode cX4_isSame 197 = .ok (.invokevirtual 79, 3) := by decide +kernel
theorem dX4_isSame_200 : decode cX4_isSame 200 = .ok (.aload 4, 2) := by decide +kernel
theorem dX4_isSame_202 : decode cX4_isSame 202 = .ok (.iload 5, 2) := by decide +kernel
theorem dX4_isSame_204 : decode cX4_isSame 204 = .ok (.iaload, 1) := by decide +kernel
theorem dX4_isSame_205 : decode cX4_isSame 205 = .ok (.if_icmp .eq 5, 3) := by decide +kernel
theorem dX4_isSame_208 : decode cX4_isSame 208 = .ok (.iconst 0, 1) := by decide +kernel
theorem dX4_isSame_209 : decode cX4_isSame 209 = .ok (.ireturn, 1) := by decide +kernel
theorem dX4_isSame_210 : decode cX4_isSame 210 = .ok (.iinc 5 1, 3) := by decide +kernel
theorem dX4_isSame_213 : decode cX4_isSame 213 = .ok (.goto (-26), 3) := by decide +kernel
theorem dX4_isSame_216 : decode cX4_isSame 216 = .ok (.iinc 3 1, 3) := by decide +kernel
theorem dX4_isSame_219 : decode cX4_isSame 219 = .ok (.goto (-106), 3) := by decide +kernel
theorem dX4_isSame_222 : decode cX4_isSame 222 = .ok (.iconst 0, 1) := by decide +kernel
theorem dX4_isSame_223 : decode cX4_isSame 223 = .ok (.istore_n 3, 1) := by decide +kernel
theorem dX4_isSame_224 : decode cX4_isSame 224 = .ok (.iconst 0, 1) := by decide +kernel
theorem dX4_isSame_225 : decode cX4_isSame 225 = .ok (.istore 4, 2) := by decide +kernel
theorem dX4_isSame_227 : decode cX4_isSame 227 = .ok (.iload 4, 2) := by decide +kernel
theorem dX4_isSame_229 : decode cX4_isSame 229 = .ok (.aload_n 0, 1) := by decide +kernel
theorem dX4_isSame_230 : decode cX4_isSame 230 = .ok (.getfield 28, 3) := by decide +kernel
theorem dX4_isSame_233 : decode cX4_isSame 233 = .ok (.arraylength, 1) := by decide +kernel
theorem dX4_isSame_234 : decode cX4_isSame 234 = .ok (.if_icmp .ge 80, 3) := by decide +kernel
theorem dX4_isSame_237 : decode cX4_isSame 237 = .ok (.aload_n 1, 1) := by decide +kernel
theorem dX4_isSame_238 : decode cX4_isSame 238 = .ok (.iload 4, 2) := by decide +kernel
theorem dX4_isSame_240 : decode cX4_isSame 240 = .ok (.invokevirtual 82, 3) := by decide +kernel
theorem dX4_isSame_243 : decode cX4_isSame 243 = .ok (.aload_n 0, 1) := by decide +kernel
theorem dX4_isSame_244 : decode cX4_isSame 244 = .ok (.iload 4, 2) := by decide +kernel
theorem dX4_isSame_246 : decode cX4_isSame 246 = .ok (.invokevirtual 42, 3) := by decide +kernel
theorem dX4_isSame_249 : decode cX4_isSame 249 = .ok (.if_icmp .eq 5, 3) := by decide +kernel
theorem dX4_isSame_252 : decode cX4_isSame 252 = .ok (.iconst 0, 1) := by decide +kernel
theorem dX4_isSame_253 : decode cX4_isSame 253 = .ok (.ireturn, 1) := by decide +kernel
theorem dX4_isSame_254 : decode cX4_isSame 254 = .ok (.iload_n 3, 1) := by decide +kernel
theorem dX4_isSame_255 : decode cX4_isSame 255 = .ok (.aload_n 0, 1) := by decide +kernel
theorem dX4_isSame_256 : decode cX4_isSame 256 = .ok (.iload 4, 2) := by decide +kernel
theorem dX4_isSame_258 : decode cX4_isSame 258 = .ok (.invokevirtual 42, 3) := by decide +kernel
theorem dX4_isSame_261 : decode cX4_isSame 261 = .ok (.iadd, 1) := by decide +kernel
theorem dX4_isSame_262 : decode cX4_isSame 262 = .ok (.istore_n 3, 1) := by decide +kernel
theorem dX4_isSame_263 : decode cX4_isSame 263 = .ok (.iconst 0, 1) := by decide +kernel
theorem dX4_isSame_264 : decode cX4_isSame 264 = .ok (.istore 5, 2) := by decide +kernel
theorem dX4_isSame_266 : decode cX4_isSame 266 = .ok (.iload 5, 2) := by decide +kernel
theorem dX4_isSame_268 : decode cX4_isSame 268 = .ok (.aload_n 0, 1) := by decide +kernel
theorem dX4_isSame_269 : decode cX4_isSame 269 = .ok (.getfield 28, 3) := by decide +kernel
theorem dX4_isSame_272 : decode cX4_isSame 272 = .ok (.iload 4, 2) := by decide +kernel
theorem dX4_isSame_274 : decode cX4_isSame 274 = .ok (.aaload, 1) := by decide +kernel
theorem dX4_isSame_275 : decode cX4_isSame 275 = .ok (.arraylength, 1) := by decide +kernel
theorem dX4_isSame_276 : decode cX4_isSame 276 = .ok (.if_icmp .ge 32, 3) := by decide +kernel
theorem dX4_isSame_279 : decode cX4_isSame 279 = .ok (.aload_n 1, 1) := by decide +kernel
theorem dX4_isSame_280 : decode cX4_isSame 280 = .ok (.iload 4, 2) := by decide +kernel
theorem dX4_isSame_282 : decode cX4_isSame 282 = .ok (.iload 5, 2) := by decide +kernel
theorem dX4_isSame_284 : decode cX4_isSame 284 = .ok (.invokevirtual 83, 3) := by decide +kernel
theorem dX4_isSame_287 : decode cX4_isSame 287 = .ok (.aload_n 0, 1) := by decide +kernel
theorem dX4_isSame_288 : decode cX4_isSame 288 = .ok (.getfield 28, 3) := by decide +kernel
theorem dX4_isSame_291 : decode cX4_isSame 291 = .ok (.iload 4, 2) := by decide +kernel
theorem dX4_isSame_293 : decode cX4_isSame 293 = .ok (.aaload, 1) := by decide +kernel
theorem dX4_isSame_294 : decode cX4_isSame 294 = .ok (.iload 5, 2) := by decide +kernel
theorem dX4_isSame_296 : decode cX4_isSame 296 = .ok (.iaload, 1) := by decide +kernel
theorem dX4_isSame_297 : decode cX4_isSame 297 = .ok (.if_icmp .eq 5, 3) := by decide +kernel
theorem dX4_isSame_300 : decode cX4_isSame 300 = .ok (.iconst 0, 1) := by decide +kernel
theorem dX4_isSame_301 : decode cX4_isSame 301 = .ok (.ireturn, 1) := by decide +kernel
theorem dX4_isSame_302 : decode cX4_isSame 302 = .ok (.iinc 5 1, 3) := by decide +kernel
theorem dX4_isSame_305 : decode cX4_isSame 305 = .ok (.goto (-39), 3) := by decide +kernel
theorem dX4_isSame_308 : decode cX4_isSame 308 = .ok (.iinc 4 1, 3) := by decide +kernel
theorem dX4_isSame_311 : decode cX4_isSame 311 = .ok (.goto (-84), 3) := by decide +kernel
theorem dX4_isSame_314 : decode cX4_isSame 314 = .ok (.iconst 0, 1) := by decide +kernel
theorem dX4_isSame_315 : decode cX4_isSame 315 = .ok (.istore 4, 2) := by decide +kernel
theorem dX4_isSame_317 : decode cX4_isSame 317 = .ok (.iload 4, 2) := by decide +kernel
theorem dX4_isSame_319 : decode cX4_isSame 319 = .ok (.aload_n 0, 1) := by decide +kernel
theorem dX4_isSame_320 : decode cX4_isSame 320 = .ok (.getfield 32, 3) := by decide +kernel
theorem dX4_isSame_323 : decode cX4_isSame 323 = .ok (.arraylength, 1) := by decide +kernel
theorem dX4_isSame_324 : decode cX4_isSame 324 = .ok (.if_icmp .ge 154, 3) := by decide +kernel
theorem dX4_isSame_327 : decode cX4_isSame 327 = .ok (.aload_n 0, 1) := by decide +kernel
theorem dX4_isSame_328 : decode cX4_isSame 328 = .ok (.getfield 32, 3) := by decide +kernel
theorem dX4_isSame_331 : decode cX4_isSame 331 = .ok (.iload 4, 2) := by decide +kernel
theorem dX4_isSame_333 : decode cX4_isSame 333 = .ok (.aaload, 1) := by decide +kernel
theorem dX4_isSame_334 : decode cX4_isSame 334 = .ok (.astore 5, 2) := by decide +kernel
theorem dX4_isSame_336 : decode cX4_isSame 336 = .ok (.iconst 0, 1) := by decide +kernel
theorem dX4_isSame_337 : decode cX4_isSame 337 = .ok (.istore 6, 2) := by decide +kernel
theorem dX4_isSame_339 : decode cX4_isSame 339 = .ok (.iconst 0, 1) := by decide +kernel
theorem dX4_isSame_340 : decode cX4_isSame 340 = .ok (.istore 7, 2) := by decide +kernel
theorem dX4_isSame_342 : decode cX4_isSame 342 = .ok (.iload 7, 2) := by decide +kernel
theorem dX4_isSame_344 : decode cX4_isSame 344 = .ok (.aload_n 0, 1) := by decide +kernel
theorem dX4_isSame_345 : decode cX4_isSame 345 = .ok (.getfield 28, 3) := by decide +kernel
theorem dX4_isSame_348 : decode cX4_isSame 348 = .ok (.arraylength, 1) := by decide +kernel
theorem dX4_isSame_349 : decode cX4_isSame 349 = .ok (.if_icmp .ge 42, 3) := by decide +kernel
theorem dX4_isSame_352 : decode cX4_isSame 352 = .ok (.iload 6, 2) := by decide +kernel
theorem dX4_isSame_354 : decode cX4_isSame 354 = .ok (.aload 5, 2) := by decide +kernel
theorem dX4_isSame_356 : decode cX4_isSame 356 = .ok (.iconst 3, 1) := by decide +kernel
theorem dX4_isSame_357 : decode cX4_isSame 357 = .ok (.iload 7, 2) := by decide +kernel
theorem dX4_isSame_359 : decode cX4_isSame 359 = .ok (.iadd, 1) := by decide +kernel
theorem dX4_isSame_360 : decode cX4_isSame 360 = .ok (.iaload, 1) := by decide +kernel
theorem dX4_isSame_361 : decode cX4_isSame 361 = .ok (.iadd, 1) := by decide +kernel
theorem dX4_isSame_362 : decode cX4_isSame 362 = .ok (.istore 6, 2) := by decide +kernel
theorem dX4_isSame_364 : decode cX4_isSame 364 = .ok (.aload_n 1, 1) := by decide +kernel
theorem dX4_isSame_365 : decode cX4_isSame 365 = .ok (.iload 4, 2) := by decide +kernel
theorem dX4_isSame_367 : decode cX4_isSame 367 = .ok (.iload 7, 2) := by decide +kernel
theorem dX4_isSame_369 : decode cX4_isSame 369 = .ok (.invokevirtual 86, 3) := by decide +kernel
theorem dX4_isSame_372 : decode cX4_isSame 372 = .ok (.aload_n 0, 1) := by decide +kernel
theorem dX4_isSame_373 : decode cX4_isSame 373 = .ok (.iload 4, 2) := by decide +kernel
theorem dX4_isSame_375 : decode cX4_isSame 375 = .ok (.iload 7, 2) := by decide +kernel
theorem dX4_isSame_377 : decode cX4_isSame 377 = .ok (.invokevirtual 51, 3) := by decide +kernel
theorem dX4_isSame_380 : decode cX4_isSame 380 = .ok (.if_icmp .eq 5, 3) := by decide +kernel
theorem dX4_isSame_383 : decode cX4_isSame 383 = .ok (.iconst 0, 1) := by decide +kernel
theorem dX4_isSame_384 : decode cX4_isSame 384 = .ok (.ireturn, 1) := by decide +kernel
theorem dX4_isSame_385 : decode cX4_isSame 385 = .ok (.iinc 7 1, 3) := by decide +kernel
theorem dX4_isSame_388 : decode cX4_isSame 388 = .ok (.goto (-46), 3) := by decide +kernel
theorem dX4_isSame_391 : decode cX4_isSame 391 = .ok (.iconst 5, 1) := by decide +kernel
theorem dX4_isSame_392 : decode cX4_isSame 392 = .ok (.newarray .int, 2) := by decide +kernel
theorem dX4_isSame_394 : decode cX4_isSame 394 = .ok (.dup, 1) := by decide +kernel
theorem dX4_isSame_395 : decode cX4_isSame 395 = .ok (.iconst 0, 1) := by decide +kernel
theorem dX4_isSame_396 : decode cX4_isSame 396 = .ok (.aload 5, 2) := by decide +kernel
theorem dX4_isSame_398 : decode cX4_isSame 398 = .ok (.iconst 0, 1) := by decide +kernel
theorem dX4_isSame_399 : decode cX4_isSame 399 = .ok (.iaload, 1) := by decide +kernel
theorem dX4_isSame_400 : decode cX4_isSame 400 = .ok (.iastore, 1) := by decide +kernel
theorem dX4_isSame_401 : decode cX4_isSame 401 = .ok (.dup, 1) := by decide +kernel
theorem dX4_isSame_402 : decode cX4_isSame 402 = .ok (.iconst 1, 1) := by decide +kernel
theorem dX4_isSame_403 : decode cX4_isSame 403 = .ok (.aload 5, 2) := by decide +kernel
theorem dX4_isSame_405 : decode cX4_isSame 405 = .ok (.iconst 1, 1) := by decide +kernel
theorem dX4_isSame_406 : decode cX4_isSame 406 = .ok (.iaload, 1) := by decide +kernel
theorem dX4_isSame_407 : decode cX4_isSame 407 = .ok (.iastore, 1) := by decide +kernel
theorem dX4_isSame_408 : decode cX4_isSame 408 = .ok (.dup, 1) := by decide +kernel
theorem dX4_isSame_409 : decode cX4_isSame 409 = .ok (.iconst 2, 1) := by decide +kernel
theorem dX4_isSame_410 : decode cX4_isSame 410 = .ok (.aload 5, 2) := by decide +kernel
theorem dX4_isSame_412 : decode cX4_isSame 412 = .ok (.iconst 1, 1) := by decide +kernel
theorem dX4_isSame_413 : decode cX4_isSame 413 = .ok (.iaload, 1) := by decide +kernel
theorem dX4_isSame_414 : decode cX4_isSame 414 = .ok (.aload_n 0, 1) := by decide +kernel
theorem dX4_isSame_415 : decode cX4_isSame 415 = .ok (.getfield 45, 3) := by decide +kernel
theorem dX4_isSame_418 : decode cX4_isSame 418 = .ok (.bipush 7, 2) := by decide +kernel
theorem dX4_isSame_420 : decode cX4_isSame 420 = .ok (.irem, 1) := by decide +kernel
theorem dX4_isSame_421 : decode cX4_isSame 421 = .ok (.ishr, 1) := by decide +kernel
theorem dX4_isSame_422 : decode cX4_isSame 422 = .ok (.iconst 1, 1) := by decide +kernel
theorem dX4_isSame_423 : decode cX4_isSame 423 = .ok (.iand, 1) := by decide +kernel
theorem dX4_isSame_424 : decode cX4_isSame 424 = .ok (.iastore, 1) := by decide +kernel
theorem dX4_isSame_425 : decode cX4_isSame 425 = .ok (.dup, 1) := by decide +kernel
theorem dX4_isSame_426 : decode cX4_isSame 426 = .ok (.iconst 3, 1) := by decide +kernel
theorem dX4_isSame_427 : decode cX4_isSame 427 = .ok (.aload 5, 2) := by decide +kernel
theorem dX4_isSame_429 : decode cX4_isSame 429 = .ok (.iconst 2, 1) := by decide +kernel
theorem dX4_isSame_430 : decode cX4_isSame 430 = .ok (.iaload, 1) := by decide +kernel
theorem dX4_isSame_431 : decode cX4_isSame 431 = .ok (.iastore, 1) := by decide +kernel
theorem dX4_isSame_432 : decode cX4_isSame 432 = .ok (.dup, 1) := by decide +kernel
theorem dX4_isSame_433 : decode cX4_isSame 433 = .ok (.iconst 4, 1) := by decide +kernel
theorem dX4_isSame_434 : decode cX4_isSame 434 = .ok (.iload 6, 2) := by decide +kernel
theorem dX4_isSame_436 : decode cX4_isSame 436 = .ok (.iastore, 1) := by decide +kernel
theorem dX4_isSame_437 : decode cX4_isSame 437 = .ok (.astore 7, 2) := by decide +kernel
theorem dX4_isSame_439 : decode cX4_isSame 439 = .ok (.iconst 0, 1) := by decide +kernel
theorem dX4_isSame_440 : decode cX4_isSame 440 = .ok (.istore 8, 2) := by decide +kernel
theorem dX4_isSame_442 : decode cX4_isSame 442 = .ok (.iload 8, 2) := by decide +kernel
theorem dX4_isSame_444 : decode cX4_isSame 444 = .ok (.iconst 5, 1) := by decide +kernel
theorem dX4_isSame_445 : decode cX4_isSame 445 = .ok (.if_icmp .ge 27, 3) := by decide +kernel
theorem dX4_isSame_448 : decode cX4_isSame 448 = .ok (.aload_n 1, 1) := by decide +kernel
theorem dX4_isSame_449 : decode cX4_isSame 449 = .ok (.iload 4, 2) := by decide +kernel
theorem dX4_isSame_451 : decode cX4_isSame 451 = .ok (.iload 8, 2) := by decide +kernel
theorem dX4_isSame_453 : decode cX4_isSame 453 = .ok (.invokevirtual 87, 3) := by decide +kernel
theorem dX4_isSame_456 : decode cX4_isSame 456 = .ok (.aload 7, 2) := by decide +kernel
theorem dX4_isSame_458 : decode cX4_isSame 458 = .ok (.iload 8, 2) := by decide +kernel
theorem dX4_isSame_460 : decode cX4_isSame 460 = .ok (.iaload, 1) := by decide +kernel
theorem dX4_isSame_461 : decode cX4_isSame 461 = .ok (.if_icmp .eq 5, 3) := by decide +kernel
theorem dX4_isSame_464 : decode cX4_isSame 464 = .ok (.iconst 0, 1) := by decide +kernel
theorem dX4_isSame_465 : decode cX4_isSame 465 = .ok (.ireturn, 1) := by decide +kernel
theorem dX4_isSame_466 : decode cX4_isSame 466 = .ok (.iinc 8 1, 3) := by decide +kernel
theorem dX4_isSame_469 : decode cX4_isSame 469 = .ok (.goto (-27), 3) := by decide +kernel
theorem dX4_isSame_472 : decode cX4_isSame 472 = .ok (.iinc 4 1, 3) := by decide +kernel
theorem dX4_isSame_475 : decode cX4_isSame 475 = .ok (.goto (-158), 3) := by decide +kernel
theorem dX4_isSame_478 : decode cX4_isSame 478 = .ok (.aload_n 1, 1) := by decide +kernel
theorem dX4_isSame_479 : decode cX4_isSame 479 = .ok (.invokevirtual 90, 3) := by decide +kernel
theorem dX4_isSame_482 : decode cX4_isSame 482 = .ok (.aload_n 0, 1) := by decide +kernel
theorem dX4_isSame_483 : decode cX4_isSame 483 = .ok (.getfield 28, 3) := by decide +kernel
theorem dX4_isSame_486 : decode cX4_isSame 486 = .ok (.arraylength, 1) := by decide +kernel
theorem dX4_isSame_487 : decode cX4_isSame 487 = .ok (.ifCond .ne 7, 3) := by decide +kernel
theorem dX4_isSame_490 : decode cX4_isSame 490 = .ok (.dconst 0, 1) := by decide +kernel
theorem dX4_isSame_491 : decode cX4_isSame 491 = .ok (.goto 12, 3) := by decide +kernel
theorem dX4_isSame_494 : decode cX4_isSame 494 = .ok (.iload_n 3, 1) := by decide +kernel
theorem dX4_isSame_495 : decode cX4_isSame 495 = .ok (.i2d, 1) := by decide +kernel
theorem dX4_isSame_496 : decode cX4_isSame 496 = .ok (.aload_n 0, 1) := by decide +kernel
theorem dX4_isSame_497 : decode cX4_isSame 497 = .ok (.getfield 28, 3) := by decide +kernel
theorem dX4_isSame_500 : decode cX4_isSame 500 = .ok (.arraylength, 1) := by decide +kernel
theorem dX4_isSame_501 : decode cX4_isSame 501 = .ok (.i2d, 1) := by decide +kernel
theorem dX4_isSame_502 : decode cX4_isSame 502 = .ok (.ddiv, 1) := by decide +kernel
theorem dX4_isSame_503 : decode cX4_isSame 503 = .ok (.dcmp .l, 1) := by decide +kernel
theorem dX4_isSame_504 : decode cX4_isSame 504 = .ok (.ifCond .ne 7, 3) := by decide +kernel
theorem dX4_isSame_507 : decode cX4_isSame 507 = .ok (.iconst 1, 1) := by decide +kernel
theorem dX4_isSame_508 : decode cX4_isSame 508 = .ok (.goto 4, 3) := by decide +kernel
theorem dX4_isSame_511 : decode cX4_isSame 511 = .ok (.iconst 0, 1) := by decide +kernel
theorem dX4_isSame_512 : decode cX4_isSame 512 = .ok (.ireturn, 1) := by decide +kernel
theorem dJ9_floorMod_7cf53_0 : decode cJ9_floorMod_7cf53 0 = .ok (.iload_n 0, 1) := by decide +kernel
theorem dJ9_floorMod_7cf53_1 : decode cJ9_floorMod_7cf53 1 = .ok (.iload_n 1, 1) := by decide +kernel
theorem dJ9_floorMod_7cf53_2 : decode cJ9_floorMod_7cf53 2 = .ok (.irem, 1) := by decide +kernel
theorem dJ9_floorMod_7cf53_3 : decode cJ9_floorMod_7cf53 3 = .ok (.istore_n 2, 1) := by decide +kernel
theorem dJ9_floorMod_7cf53_4 : decode cJ9_floorMod_7cf53 4 = .ok (.iload_n 0, 1) := by decide +kernel
theorem dJ9_floorMod_7cf53_5 : decode cJ9_floorMod_7cf53 5 = .ok (.iload_n 1, 1) := by decide +kernel
theorem dJ9_floorMod_7cf53_6 : decode cJ9_floorMod_7cf53 6 = .ok (.ixor, 1) := by decide +kernel
theorem dJ9_floorMod_7cf53_7 : decode cJ9_floorMod_7cf53 7 = .ok (.ifCond .ge 11, 3) := by decide +kernel
theorem dJ9_floorMod_7cf53_10 : decode cJ9_floorMod_7cf53 10 = .ok (.iload_n 2, 1) := by decide +kernel
theorem dJ9_floorMod_7cf53_11 : decode cJ9_floorMod_7cf53 11 = .ok (.ifCond .eq 7, 3) := by decide +kernel
theorem dJ9_floorMod_7cf53_14 : decode cJ9_floorMod_7cf53 14 = .ok (.iload_n 2, 1) := by decide +kernel
theorem dJ9_floorMod_7cf53_15 : decode cJ9_floorMod_7cf53 15 = .ok (.iload_n 1, 1) := by decide +kernel
theorem dJ9_floorMod_7cf53_16 : decode cJ9_floorMod_7cf53 16 = .ok (.iadd, 1) := by decide +kernel
theorem dJ9_floorMod_7cf53_17 : decode cJ9_floorMod_7cf53 17 = .ok (.ireturn, 1) := by decide +kernel
theorem dJ9_floorMod_7cf53_18 : decode cJ9_floorMod_7cf53 18 = .ok (.iload_n 2, 1) := by decide +kernel
theorem dJ9_floorMod_7cf53_19 : decode cJ9_floorMod_7cf53 19 = .ok (.ireturn, 1) := by decide +kernel
theorem dJ9_abs_0f7a4_0 : decode cJ9_abs_0f7a4 0 = .ok (.iload_n 0, 1) := by decide +kernel
theorem dJ9_abs_0f7a4_1 : decode cJ9_abs_0f7a4 1 = .ok (.ifCond .ge 8, 3) := by decide +kernel
theorem dJ9_abs_0f7a4_4 : decode cJ9_abs_0f7a4 4 = .ok (.iload_n 0, 1) := by decide +kernel
theorem dJ9_abs_0f7a4_5 : decode cJ9_abs_0f7a4 5 = .ok (.ineg, 1) := by decide +kernel
theorem dJ9_abs_0f7a4_6 : decode cJ9_abs_0f7a4 6 = .ok (.goto 4, 3) := by decide +kernel
theorem dJ9_abs_0f7a4_9 : decode cJ9_abs_0f7a4 9 = .ok (.iload_n 0, 1) := by decide +kernel
theorem dJ9_abs_0f7a4_10 : decode cJ9_abs_0f7a4 10 = .ok (.ireturn, 1) := by decide +kernel
theorem dJ9_max_7cf53_0 : decode cJ9_max_7cf53 0 = .ok (.iload_n 0, 1) := by decide +kernel
theorem dJ9_max_7cf53_1 : decode cJ9_max_7cf53 1 = .ok (.iload_n 1, 1) := by decide +kernel
theorem dJ9_max_7cf53_2 : decode cJ9_max_7cf53 2 = .ok (.if_icmp .lt 7, 3) := by decide +kernel
theorem dJ9_max_7cf53_5 : decode cJ9_max_7cf53 5 = .ok (.iload_n 0, 1) := by decide +kernel
theorem dJ9_max_7cf53_6 : decode cJ9_max_7cf53 6 = .ok (.goto 4, 3) := by decide +kernel
theorem dJ9_max_7cf53_9 : decode cJ9_max_7cf53 9 = .ok (.iload_n 1, 1) := by decide +kernel
theorem dJ9_max_7cf53_10 : decode cJ9_max_7cf53 10 = .ok (.ireturn, 1) := by decide +kernel
theorem dJ9_min_7cf53_0 : decode cJ9_min_7cf53 0 = .ok (.iload_n 0, 1) := by decide +kernel
theorem dJ9_min_7cf53_1 : decode cJ9_min_7cf53 1 = .ok (.iload_n 1, 1) := by decide +kernel
theorem dJ9_min_7cf53_2 : decode cJ9_min_7cf53 2 = .ok (.if_icmp .gt 7, 3) := by decide +kernel
theorem dJ9_min_7cf53_5 : decode cJ9_min_7cf53 5 = .ok (.iload_n 0, 1) := by decide +kernel
theorem dJ9_min_7cf53_6 : decode cJ9_min_7cf53 6 = .ok (.goto 4, 3) := by decide +kernel
theorem dJ9_min_7cf53_9 : decode cJ9_min_7cf53 9 = .ok (.iload_n 1, 1) := by decide +kernel
theorem dJ9_min_7cf53_10 : decode cJ9_min_7cf53 10 = .ok (.ireturn, 1) := by decide +kernel
theorem dJ7_copyOf_59c91_0 : decode cJ7_copyOf_59c91 0 = .ok (.iload_n 1, 1) := by decide +kernel
theorem dJ7_copyOf_59c91_1 : decode cJ7_copyOf_59c91 1 = .ok (.aload_n 0, 1) := by decide +kernel
theorem dJ7_copyOf_59c91_2 : decode cJ7_copyOf_59c91 2 = .ok (.arraylength, 1) := by decide +kernel
theorem dJ7_copyOf_59c91_3 : decode cJ7_copyOf_59c91 3 = .ok (.if_icmp .ne 11, 3) := by decide +kernel
theorem dJ7_copyOf_59c91_6 : decode cJ7_copyOf_59c91 6 = .ok (.aload_n 0, 1) := by decide +kernel
theorem dJ7_copyOf_59c91_7 : decode cJ7_copyOf_59c91 7 = .ok (.invokevirtual 316, 3) := by decide +kernel
theorem dJ7_copyOf_59c91_10 : decode cJ7_copyOf_59c91 10 = .ok (.checkcast 317, 3) := by decide +kernel
theorem dJ7_copyOf_59c91_13 : decode cJ7_copyOf_59c91 13 = .ok (.areturn, 1) := by decide +kernel
theorem dJ7_copyOf_59c91_14 : decode cJ7_copyOf_59c91 14 = .ok (.iload_n 1, 1) := by decide +kernel
theorem dJ7_copyOf_59c91_15 : decode cJ7_copyOf_59c91 15 = .ok (.newarray .int, 2) := by decide +kernel
theorem dJ7_copyOf_59c91_17 : decode cJ7_copyOf_59c91 17 = .ok (.astore_n 2, 1) := by decide +kernel
theorem dJ7_copyOf_59c91_18 : decode cJ7_copyOf_59c91 18 = .ok (.aload_n 0, 1) := by decide +kernel
theorem dJ7_copyOf_59c91_19 : decode cJ7_copyOf_59c91 19 = .ok (.iconst 0, 1) := by decide +kernel
theorem dJ7_copyOf_59c91_20 : decode cJ7_copyOf_59c91 20 = .ok (.aload_n 2, 1) := by decide +kernel
theorem dJ7_copyOf_59c91_21 : decode cJ7_copyOf_59c91 21 = .ok (.iconst 0, 1) := by decide +kernel
theorem dJ7_copyOf_59c91_22 : decode cJ7_copyOf_59c91 22 = .ok (.aload_n 0, 1) := by decide +kernel
theorem dJ7_copyOf_59c91_23 : decode cJ7_copyOf_59c91 23 = .ok (.arraylength, 1) := by decide +kernel
theorem dJ7_copyOf_59c91_24 : decode cJ7_copyOf_59c91 24 = .ok (.iload_n 1, 1) := by decide +kernel
theorem dJ7_copyOf_59c91_25 : decode cJ7_copyOf_59c91 25 = .ok (.invokestatic 304, 3) := by decide +kernel
theorem dJ7_copyOf_59c91_28 : decode cJ7_copyOf_59c91 28 = .ok (.invokestatic 150, 3) := by decide +kernel
theorem dJ7_copyOf_59c91_31 : decode cJ7_copyOf_59c91 31 = .ok (.aload_n 2, 1) := by decide +kernel
theorem dJ7_copyOf_59c91_32 : decode cJ7_copyOf_59c91 32 = .ok (.areturn, 1) := by decide +kernel
end
section
theorem dL_below_0 : decode cL_below 0 = .ok (.iload_n 0, 1) := by decide +kernel
theorem dL_below_1 : decode cL_below 1 = .ok (.ldc 7, 2) := by decide +kernel
theorem dL_below_3 : decode cL_below 3 = .ok (.iand, 1) := by decide +kernel
theorem dL_below_4 : decode cL_below 4 = .ok (.iload_n 1, 1) := by decide +kernel
theorem dL_below_5 : decode cL_below 5 = .ok (.irem, 1) := by decide +kernel
theorem dL_below_6 : decode cL_below 6 = .ok (.ireturn, 1) := by decide +kernel
theorem dL_cell_0 : decode cL_cell 0 = .ok (.iload_n 1, 1) := by decide +kernel
theorem dL_cell_1 : decode cL_cell 1 = .ok (.aload_n 0, 1) := by decide +kernel
theorem dL_cell_2 : decode cL_cell 2 = .ok (.arraylength, 1) := by decide +kernel
theorem dL_cell_3 : decode cL_cell 3 = .ok (.if_icmp .ge 9, 3) := by decide +kernel
theorem dL_cell_6 : decode cL_cell 6 = .ok (.aload_n 0, 1) := by decide +kernel
theorem dL_cell_7 : decode cL_cell 7 = .ok (.iload_n 1, 1) := by decide +kernel
theorem dL_cell_8 : decode cL_cell 8 = .ok (.iaload, 1) := by decide +kernel
theorem dL_cell_9 : decode cL_cell 9 = .ok (.goto 9, 3) := by decide +kernel
theorem dL_cell_12 : decode cL_cell 12 = .ok (.ldc 8, 2) := by decide +kernel
theorem dL_cell_14 : decode cL_cell 14 = .ok (.iload_n 1, 1) := by decide +kernel
theorem dL_cell_15 : decode cL_cell 15 = .ok (.iconst 3, 1) := by decide +kernel
theorem dL_cell_16 : decode cL_cell 16 = .ok (.iadd, 1) := by decide +kernel
theorem dL_cell_17 : decode cL_cell 17 = .ok (.imul, 1) := by decide +kernel
theorem dL_cell_18 : decode cL_cell 18 = .ok (.ireturn, 1) := by decide +kernel
theorem dL_act_0 : decode cL_act 0 = .ok (.aload_n 1, 1) := by decide +kernel
theorem dL_act_1 : decode cL_act 1 = .ok (.getfield 9, 3) := by decide +kernel
theorem dL_act_4 : decode cL_act 4 = .ok (.arraylength, 1) := by decide +kernel
theorem dL_act_5 : decode cL_act 5 = .ok (.ifCond .ne 7, 3) := by decide +kernel
theorem dL_act_8 : decode cL_act 8 = .ok (.iconst (-1), 1) := by decide +kernel
theorem dL_act_9 : decode cL_act 9 = .ok (.goto 14, 3) := by decide +kernel
theorem dL_act_12 : decode cL_act 12 = .ok (.iload_n 2, 1) := by decide +kernel
theorem dL_act_13 : decode cL_act 13 = .ok (.iconst 3, 1) := by decide +kernel
theorem dL_act_14 : decode cL_act 14 = .ok (.ishr, 1) := by decide +kernel
theorem dL_act_15 : decode cL_act 15 = .ok (.aload_n 1, 1) := by decide +kernel
theorem dL_act_16 : decode cL_act 16 = .ok (.getfield 9, 3) := by decide +kernel
theorem dL_act_19 : decode cL_act 19 = .ok (.arraylength, 1) := by decide +kernel
theorem dL_act_20 : decode cL_act 20 = .ok (.invokestatic 15, 3) := by decide +kernel
theorem dL_act_23 : decode cL_act 23 = .ok (.istore_n 3, 1) := by decide +kernel
theorem dL_act_24 : decode cL_act 24 = .ok (.aload_n 1, 1) := by decide +kernel
theorem dL_act_25 : decode cL_act 25 = .ok (.getfield 21, 3) := by decide +kernel
theorem dL_act_28 : decode cL_act 28 = .ok (.arraylength, 1) := by decide +kernel
theorem dL_act_29 : decode cL_act 29 = .ok (.ifCond .ne 7, 3) := by decide +kernel
theorem dL_act_32 : decode cL_act 32 = .ok (.iconst (-1), 1) := by decide +kernel
theorem dL_act_33 : decode cL_act 33 = .ok (.goto 14, 3) := by decide +kernel
theorem dL_act_36 : decode cL_act 36 = .ok (.iload_n 2, 1) := by decide +kernel
theorem dL_act_37 : decode cL_act 37 = .ok (.iconst 5, 1) := by decide +kernel
theorem dL_act_38 : decode cL_act 38 = .ok (.ishr, 1) := by decide +kernel
theorem dL_act_39 : decode cL_act 39 = .ok (.aload_n 1, 1) := by decide +kernel
theorem dL_act_40 : decode cL_act 40 = .ok (.getfield 21, 3) := by decide +kernel
theorem dL_act_43 : decode cL_act 43 = .ok (.arraylength, 1) := by decide +kernel
theorem dL_act_44 : decode cL_act 44 = .ok (.invokestatic 15, 3) := by decide +kernel
theorem dL_act_47 : decode cL_act 47 = .ok (.istore 4, 2) := by decide +kernel
theorem dL_act_49 : decode cL_act 49 = .ok (.iload_n 2, 1) := by decide +kernel
theorem dL_act_50 : decode cL_act 50 = .ok (.iconst 4, 1) := by decide +kernel
theorem dL_act_51 : decode cL_act 51 = .ok (.ishr, 1) := by decide +kernel
theorem dL_act_52 : decode cL_act 52 = .ok (.bipush 12, 2) := by decide +kernel
theorem dL_act_54 : decode cL_act 54 = .ok (.invokestatic 15, 3) := by decide +kernel
theorem dL_act_57 : decode cL_act 57 = .ok (.istore 5, 2) := by decide +kernel
theorem dL_act_59 : decode cL_act 59 = .ok (.iload_n 2, 1) := by decide +kernel
theorem dL_act_60 : decode cL_act 60 = .ok (.bipush 13, 2) := by decide +kernel
theorem dL_act_62 : decode cL_act 62 = .ok (.invokestatic 15, 3) := by decide +kernel
theorem dL_act_65 : decode cL_act 65 = .ok (.tableswitch 627 0 9 #[55, 101, 101, 101, 204, 330, 390, 449, 532, 586], 55) := by decide +kernel
theorem dL_act_120 : decode cL_act 120 = .ok (.aload_n 1, 1) := by decide +kernel
theorem dL_act_121 : decode cL_act 121 = .ok (.getfield 9, 3) := by decide +kernel
theorem dL_act_124 : decode cL_act 124 = .ok (.arraylength, 1) := by decide +kernel
theorem dL_act_125 : decode cL_act 125 = .ok (.bipush 6, 2) := by decide +kernel
theorem dL_act_127 : decode cL_act 127 = .ok (.if_icmp .ne 5, 3) := by decide +kernel
theorem dL_act_130 : decode cL_act 130 = .ok (.iconst 1, 1) := by decide +kernel
theorem dL_act_131 : decode cL_act 131 = .ok (.ireturn, 1) := by decide +kernel
theorem dL_act_132 : decode cL_act 132 = .ok (.aload_n 1, 1) := by decide +kernel
theorem dL_act_133 : decode cL_act 133 = .ok (.aload_n 1, 1) := by decide +kernel
theorem dL_act_134 : decode cL_act 134 = .ok (.getfield 9, 3) := by decide +kernel
theorem dL_act_137 : decode cL_act 137 = .ok (.iconst 0, 1) := by decide +kernel
theorem dL_act_138 : decode cL_act 138 = .ok (.newarray .int, 2) := by decide +kernel
theorem dL_act_140 : decode cL_act 140 = .ok (.invokestatic 24, 3) := by decide +kernel
theorem dL_act_143 : decode cL_act 143 = .ok (.putfield 9, 3) := by decide +kernel
theorem dL_act_146 : decode cL_act 146 = .ok (.aload_n 0, 1) := by decide +kernel
theorem dL_act_147 : decode cL_act 147 = .ok (.invokevirtual 28, 3) := by decide +kernel
theorem dL_act_150 : decode cL_act 150 = .ok (.aload_n 1, 1) := by decide +kernel
theorem dL_act_151 : decode cL_act 151 = .ok (.getfield 9, 3) := by decide +kernel
theorem dL_act_154 : decode cL_act 154 = .ok (.arraylength, 1) := by decide +kernel
theorem dL_act_155 : decode cL_act 155 = .ok (.iconst 1, 1) := by decide +kernel
theorem dL_act_156 : decode cL_act 156 = .ok (.isub, 1) := by decide +kernel
theorem dL_act_157 : decode cL_act 157 = .ok (.if_icmp .ne 7, 3) := by decide +kernel
theorem dL_act_160 : decode cL_act 160 = .ok (.iconst 1, 1) := by decide +kernel
theorem dL_act_161 : decode cL_act 161 = .ok (.goto 4, 3) := by decide +kernel
theorem dL_act_164 : decode cL_act 164 = .ok (.iconst 0, 1) := by decide +kernel
theorem dL_act_165 : decode cL_act 165 = .ok (.ireturn, 1) := by decide +kernel
theorem dL_act_166 : decode cL_act 166 = .ok (.iload_n 3, 1) := by decide +kernel
theorem dL_act_167 : decode cL_act 167 = .ok (.ifCond .lt 15, 3) := by decide +kernel
theorem dL_act_170 : decode cL_act 170 = .ok (.aload_n 1, 1) := by decide +kernel
theorem dL_act_171 : decode cL_act 171 = .ok (.getfield 9, 3) := by decide +kernel
theorem dL_act_174 : decode cL_act 174 = .ok (.iload_n 3, 1) := by decide +kernel
theorem dL_act_175 : decode cL_act 175 = .ok (.aaload, 1) := by decide +kernel
theorem dL_act_176 : decode cL_act 176 = .ok (.arraylength, 1) := by decide +kernel
theorem dL_act_177 : decode cL_act 177 = .ok (.bipush 16, 2) := by decide +kernel
theorem dL_act_179 : decode cL_act 179 = .ok (.if_icmp .ne 5, 3) := by decide +kernel
theorem dL_act_182 : decode cL_act 182 = .ok (.iconst 1, 1) := by decide +kernel
theorem dL_act_183 : decode cL_act 183 = .ok (.ireturn, 1) := by decide +kernel
theorem dL_act_184 : decode cL_act 184 = .ok (.aload_n 1, 1) := by decide +kernel
theorem dL_act_185 : decode cL_act 185 = .ok (.getfield 9, 3) := by decide +kernel
theorem dL_act_188 : decode cL_act 188 = .ok (.iload_n 3, 1) := by decide +kernel
theorem dL_act_189 : decode cL_act 189 = .ok (.aaload, 1) := by decide +kernel
theorem dL_act_190 : decode cL_act 190 = .ok (.aload_n 1, 1) := by decide +kernel
theorem dL_act_191 : decode cL_act 191 = .ok (.getfield 9, 3) := by decide +kernel
theorem dL_act_194 : decode cL_act 194 = .ok (.iload_n 3, 1) := by decide +kernel
theorem dL_act_195 : decode cL_act 195 = .ok (.aaload, 1) := by decide +kernel
theorem dL_act_196 : decode cL_act 196 = .ok (.arraylength, 1) := by decide +kernel
theorem dL_act_197 : decode cL_act 197 = .ok (.iconst 1, 1) := by decide +kernel
theorem dL_act_198 : decode cL_act 198 = .ok (.iadd, 1) := by decide +kernel
theorem dL_act_199 : decode cL_act 199 = .ok (.invokestatic 34, 3) := by decide +kernel
theorem dL_act_202 : decode cL_act 202 = .ok (.astore 6, 2) := by decide +kernel
theorem dL_act_204 : decode cL_act 204 = .ok (.aload 6, 2) := by decide +kernel
theorem dL_act_206 : decode cL_act 206 = .ok (.aload 6, 2) := by decide +kernel
theorem dL_act_208 : decode cL_act 208 = .ok (.arraylength, 1) := by decide +kernel
theorem dL_act_209 : decode cL_act 209 = .ok (.iconst 1, 1) := by decide +kernel
theorem dL_act_210 : decode cL_act 210 = .ok (.isub, 1) := by decide +kernel
theorem dL_act_211 : decode cL_act 211 = .ok (.iload_n 2, 1) := by decide +kernel
theorem dL_act_212 : decode cL_act 212 = .ok (.bipush 6, 2) := by decide +kernel
theorem dL_act_214 : decode cL_act 214 = .ok (.ishr, 1) := by decide +kernel
theorem dL_act_215 : decode cL_act 215 = .ok (.iconst 2, 1) := by decide +kernel
theorem dL_act_216 : decode cL_act 216 = .ok (.invokestatic 15, 3) := by decide +kernel
theorem dL_act_219 : decode cL_act 219 = .ok (.ifCond .ne 8, 3) := by decide +kernel
theorem dL_act_222 : decode cL_act 222 = .ok (.iload 5, 2) := by decide +kernel
theorem dL_act_224 : decode cL_act 224 = .ok (.goto 11, 3) := by decide +kernel
theorem dL_act_227 : decode cL_act 227 = .ok (.iload_n 2, 1) := by decide +kernel
theorem dL_act_228 : decode cL_act 228 = .ok (.bipush 7, 2) := by decide +kernel
theorem dL_act_230 : decode cL_act 230 = .ok (.ishr, 1) := by decide +kernel
theorem dL_act_231 : decode cL_act 231 = .ok (.iconst 4, 1) := by decide +kernel
theorem dL_act_232 : decode cL_act 232 = .ok (.invokestatic 15, 3) := by decide +kernel
theorem dL_act_235 : decode cL_act 235 = .ok (.iastore, 1) := by decide +kernel
theorem dL_act_236 : decode cL_act 236 = .ok (.aload_n 1, 1) := by decide +kernel
theorem dL_act_237 : decode cL_act 237 = .ok (.getfield 9, 3) := by decide +kernel
theorem dL_act_240 : decode cL_act 240 = .ok (.iload_n 3, 1) := by decide +kernel
theorem dL_act_241 : decode cL_act 241 = .ok (.aload 6, 2) := by decide +kernel
theorem dL_act_243 : decode cL_act 243 = .ok (.aastore, 1) := by decide +kernel
theorem dL_act_244 : decode cL_act 244 = .ok (.aload_n 0, 1) := by decide +kernel
theorem dL_act_245 : decode cL_act 245 = .ok (.iload_n 3, 1) := by decide +kernel
theorem dL_act_246 : decode cL_act 246 = .ok (.aload 6, 2) := by decide +kernel
theorem dL_act_248 : decode cL_act 248 = .ok (.aload 6, 2) := by decide +kernel
theorem dL_act_250 : decode cL_act 250 = .ok (.arraylength, 1) := by decide +kernel
theorem dL_act_251 : decode cL_act 251 = .ok (.iconst 1, 1) := by decide +kernel
theorem dL_act_252 : decode cL_act 252 = .ok (.isub, 1) := by decide +kernel
theorem dL_act_253 : decode cL_act 253 = .ok (.iaload, 1) := by decide +kernel
theorem dL_act_254 : decode cL_act 254 = .ok (.invokevirtual 40, 3) := by decide +kernel
theorem dL_act_257 : decode cL_act 257 = .ok (.aload 6, 2) := by decide +kernel
theorem dL_act_259 : decode cL_act 259 = .ok (.arraylength, 1) := by decide +kernel
theorem dL_act_260 : decode cL_act 260 = .ok (.if_icmp .ne 7, 3) := by decide +kernel
theorem dL_act_263 : decode cL_act 263 = .ok (.iconst 1, 1) := by decide +kernel
theorem dL_act_264 : decode cL_act 264 = .ok (.goto 4, 3) := by decide +kernel
theorem dL_act_267 : decode cL_act 267 = .ok (.iconst 0, 1) := by decide +kernel
theorem dL_act_268 : decode cL_act 268 = .ok (.ireturn, 1) := by decide +kernel
theorem dL_act_269 : decode cL_act 269 = .ok (.aload_n 1, 1) := by decide +kernel
theorem dL_act_270 : decode cL_act 270 = .ok (.getfield 21, 3) := by decide +kernel
theorem dL_act_273 : decode cL_act 273 = .ok (.arraylength, 1) := by decide +kernel
theorem dL_act_274 : decode cL_act 274 = .ok (.bipush 8, 2) := by decide +kernel
theorem dL_act_276 : decode cL_act 276 = .ok (.if_icmp .ne 5, 3) := by decide +kernel
theorem dL_act_279 : decode cL_act 279 = .ok (.iconst 1, 1) := by decide +kernel
theorem dL_act_280 : decode cL_act 280 = .ok (.ireturn, 1) := by decide +kernel
theorem dL_act_281 : decode cL_act 281 = .ok (.bipush 9, 2) := by decide +kernel
theorem dL_act_283 : decode cL_act 283 = .ok (.newarray .int, 2) := by decide +kernel
theorem dL_act_285 : decode cL_act 285 = .ok (.dup, 1) := by decide +kernel
theorem dL_act_286 : decode cL_act 286 = .ok (.iconst 0, 1) := by decide +kernel
theorem dL_act_287 : decode cL_act 287 = .ok (.iload_n 2, 1) := by decide +kernel
theorem dL_act_288 : decode cL_act 288 = .ok (.iconst 4, 1) := by decide +kernel
theorem dL_act_289 : decode cL_act 289 = .ok (.ishr, 1) := by decide +kernel
theorem dL_act_290 : decode cL_act 290 = .ok (.bipush 91, 2) := by decide +kernel
theorem dL_act_292 : decode cL_act 292 = .ok (.invokestatic 15, 3) := by decide +kernel
theorem dL_act_295 : decode cL_act 295 = .ok (.iastore, 1) := by decide +kernel
theorem dL_act_296 : decode cL_act 296 = .ok (.dup, 1) := by decide +kernel
theorem dL_act_297 : decode cL_act 297 = .ok (.iconst 1, 1) := by decide +kernel
theorem dL_act_298 : decode cL_act 298 = .ok (.iload_n 2, 1) := by decide +kernel
theorem dL_act_299 : decode cL_act 299 = .ok (.bipush 6, 2) := by decide +kernel
theorem dL_act_301 : decode cL_act 301 = .ok (.ishr, 1) := by decide +kernel
theorem dL_act_302 : decode cL_act 302 = .ok (.iconst 3, 1) := by decide +kernel
theorem dL_act_303 : decode cL_act 303 = .ok (.invokestatic 15, 3) := by decide +kernel
theorem dL_act_306 : decode cL_act 306 = .ok (.ifCond .ne 12, 3) := by decide +kernel
theorem dL_act_309 : decode cL_act 309 = .ok (.iload_n 2, 1) := by decide +kernel
theorem dL_act_310 : decode cL_act 310 = .ok (.iconst 5, 1) := by decide +kernel
theorem dL_act_311 : decode cL_act 311 = .ok (.ishr, 1) := by decide +kernel
theorem dL_act_312 : decode cL_act 312 = .ok (.bipush 127, 2) := by decide +kernel
theorem dL_act_314 : decode cL_act 314 = .ok (.iand, 1) := by decide +kernel
theorem dL_act_315 : decode cL_act 315 = .ok (.goto 5, 3) := by decide +kernel
theorem dL_act_318 : decode cL_act 318 = .ok (.bipush 127, 2) := by decide +kernel
theorem dL_act_320 : decode cL_act 320 = .ok (.iastore, 1) := by decide +kernel
theorem dL_act_321 : decode cL_act 321 = .ok (.dup, 1) := by decide +kernel
theorem dL_act_322 : decode cL_act 322 = .ok (.iconst 2, 1) := by decide +kernel
theorem dL_act_323 : decode cL_act 323 = .ok (.iconst 0, 1) := by decide +kernel
theorem dL_act_324 : decode cL_act 324 = .ok (.iastore, 1) := by decide +kernel
theorem dL_act_325 : decode cL_act 325 = .ok (.dup, 1) := by decide +kernel
theorem dL_act_326 : decode cL_act 326 = .ok (.iconst 3, 1) := by decide +kernel
theorem dL_act_327 : decode cL_act 327 = .ok (.iconst 0, 1) := by decide +kernel
theorem dL_act_328 : decode cL_act 328 = .ok (.iastore, 1) := by decide +kernel
theorem dL_act_329 : decode cL_act 329 = .ok (.dup, 1) := by decide +kernel
theorem dL_act_330 : decode cL_act 330 = .ok (.iconst 4, 1) := by decide +kernel
theorem dL_act_331 : decode cL_act 331 = .ok (.iconst 0, 1) := by decide +kernel
theorem dL_act_332 : decode cL_act 332 = .ok (.iastore, 1) := by decide +kernel
theorem dL_act_333 : decode cL_act 333 = .ok (.dup, 1) := by decide +kernel
theorem dL_act_334 : decode cL_act 334 = .ok (.iconst 5, 1) := by decide +kernel
theorem dL_act_335 : decode cL_act 335 = .ok (.iconst 0, 1) := by decide +kernel
theorem dL_act_336 : decode cL_act 336 = .ok (.iastore, 1) := by decide +kernel
theorem dL_act_337 : decode cL_act 337 = .ok (.dup, 1) := by decide +kernel
theorem dL_act_338 : decode cL_act 338 = .ok (.bipush 6, 2) := by decide +kernel
theorem dL_act_340 : decode cL_act 340 = .ok (.iconst 0, 1) := by decide +kernel
theorem dL_act_341 : decode cL_act 341 = .ok (.iastore, 1) := by decide +kernel
theorem dL_act_342 : decode cL_act 342 = .ok (.dup, 1) := by decide +kernel
theorem dL_act_343 : decode cL_act 343 = .ok (.bipush 7, 2) := by decide +kernel
theorem dL_act_345 : decode cL_act 345 = .ok (.iconst 0, 1) := by decide +kernel
theorem dL_act_346 : decode cL_act 346 = .ok (.iastore, 1) := by decide +kernel
theorem dL_act_347 : decode cL_act 347 = .ok (.dup, 1) := by decide +kernel
theorem dL_act_348 : decode cL_act 348 = .ok (.bipush 8, 2) := by decide +kernel
theorem dL_act_350 : decode cL_act 350 = .ok (.iconst 0, 1) := by decide +kernel
theorem dL_act_351 : decode cL_act 351 = .ok (.iastore, 1) := by decide +kernel
theorem dL_act_352 : decode cL_act 352 = .ok (.astore 6, 2) := by decide +kernel
theorem dL_act_354 : decode cL_act 354 = .ok (.aload_n 1, 1) := by decide +kernel
theorem dL_act_355 : decode cL_act 355 = .ok (.aload_n 1, 1) := by decide +kernel
theorem dL_act_356 : decode cL_act 356 = .ok (.getfield 21, 3) := by decide +kernel
theorem dL_act_359 : decode cL_act 359 = .ok (.aload 6, 2) := by decide +kernel
theorem dL_act_361 : decode cL_act 361 = .ok (.invokestatic 24, 3) := by decide +kernel
theorem dL_act_364 : decode cL_act 364 = .ok (.putfield 21, 3) := by decide +kernel
theorem dL_act_367 : decode cL_act 367 = .ok (.aload_n 0, 1) := by decide +kernel
theorem dL_act_368 : decode cL_act 368 = .ok (.aload 6, 2) := by decide +kernel
theorem dL_act_370 : decode cL_act 370 = .ok (.iconst 0, 1) := by decide +kernel
theorem dL_act_371 : decode cL_act 371 = .ok (.iaload, 1) := by decide +kernel
theorem dL_act_372 : decode cL_act 372 = .ok (.aload 6, 2) := by decide +kernel
theorem dL_act_374 : decode cL_act 374 = .ok (.iconst 1, 1) := by decide +kernel
theorem dL_act_375 : decode cL_act 375 = .ok (.iaload, 1) := by decide +kernel
theorem dL_act_376 : decode cL_act 376 = .ok (.invokevirtual 43, 3) := by decide +kernel
theorem dL_act_379 : decode cL_act 379 = .ok (.aload_n 1, 1) := by decide +kernel
theorem dL_act_380 : decode cL_act 380 = .ok (.getfield 21, 3) := by decide +kernel
theorem dL_act_383 : decode cL_act 383 = .ok (.arraylength, 1) := by decide +kernel
theorem dL_act_384 : decode cL_act 384 = .ok (.iconst 1, 1) := by decide +kernel
theorem dL_act_385 : decode cL_act 385 = .ok (.isub, 1) := by decide +kernel
theorem dL_act_386 : decode cL_act 386 = .ok (.if_icmp .ne 7, 3) := by decide +kernel
theorem dL_act_389 : decode cL_act 389 = .ok (.iconst 1, 1) := by decide +kernel
theorem dL_act_390 : decode cL_act 390 = .ok (.goto 4, 3) := by decide +kernel
theorem dL_act_393 : decode cL_act 393 = .ok (.iconst 0, 1) := by decide +kernel
theorem dL_act_394 : decode cL_act 394 = .ok (.ireturn, 1) := by decide +kernel
theorem dL_act_395 : decode cL_act 395 = .ok (.iload 4, 2) := by decide +kernel
theorem dL_act_397 : decode cL_act 397 = .ok (.ifCond .ge 5, 3) := by decide +kernel
theorem dL_act_400 : decode cL_act 400 = .ok (.iconst 1, 1) := by decide +kernel
theorem dL_act_401 : decode cL_act 401 = .ok (.ireturn, 1) := by decide +kernel
theorem dL_act_402 : decode cL_act 402 = .ok (.aload_n 1, 1) := by decide +kernel
theorem dL_act_403 : decode cL_act 403 = .ok (.getfield 21, 3) := by decide +kernel
theorem dL_act_406 : decode cL_act 406 = .ok (.iload 4, 2) := by decide +kernel
theorem dL_act_408 : decode cL_act 408 = .ok (.aaload, 1) := by decide +kernel
theorem dL_act_409 : decode cL_act 409 = .ok (.iconst 1, 1) := by decide +kernel
theorem dL_act_410 : decode cL_act 410 = .ok (.iaload, 1) := by decide +kernel
theorem dL_act_411 : decode cL_act 411 = .ok (.istore 6, 2) := by decide +kernel
theorem dL_act_413 : decode cL_act 413 = .ok (.aload_n 1, 1) := by decide +kernel
theorem dL_act_414 : decode cL_act 414 = .ok (.getfield 21, 3) := by decide +kernel
theorem dL_act_417 : decode cL_act 417 = .ok (.iload 4, 2) := by decide +kernel
theorem dL_act_419 : decode cL_act 419 = .ok (.aaload, 1) := by decide +kernel
theorem dL_act_420 : decode cL_act 420 = .ok (.iconst 1, 1) := by decide +kernel
theorem dL_act_421 : decode cL_act 421 = .ok (.iload_n 2, 1) := by decide +kernel
theorem dL_act_422 : decode cL_act 422 = .ok (.bipush 6, 2) := by decide +kernel
theorem dL_act_424 : decode cL_act 424 = .ok (.ishr, 1) := by decide +kernel
theorem dL_act_425 : decode cL_act 425 = .ok (.bipush 127, 2) := by decide +kernel
theorem dL_act_427 : decode cL_act 427 = .ok (.iand, 1) := by decide +kernel
theorem dL_act_428 : decode cL_act 428 = .ok (.iastore, 1) := by decide +kernel
theorem dL_act_429 : decode cL_act 429 = .ok (.aload_n 0, 1) := by decide +kernel
theorem dL_act_430 : decode cL_act 430 = .ok (.iload 4, 2) := by decide +kernel
theorem dL_act_432 : decode cL_act 432 = .ok (.aload_n 1, 1) := by decide +kernel
theorem dL_act_433 : decode cL_act 433 = .ok (.getfield 21, 3) := by decide +kernel
theorem dL_act_436 : decode cL_act 436 = .ok (.iload 4, 2) := by decide +kernel
theorem dL_act_438 : decode cL_act 438 = .ok (.aaload, 1) := by decide +kernel
theorem dL_act_439 : decode cL_act 439 = .ok (.iconst 1, 1) := by decide +kernel
theorem dL_act_440 : decode cL_act 440 = .ok (.iaload, 1) := by decide +kernel
theorem dL_act_441 : decode cL_act 441 = .ok (.invokevirtual 46, 3) := by decide +kernel
theorem dL_act_444 : decode cL_act 444 = .ok (.iload 6, 2) := by decide +kernel
theorem dL_act_446 : decode cL_act 446 = .ok (.if_icmp .ne 7, 3) := by decide +kernel
theorem dL_act_449 : decode cL_act 449 = .ok (.iconst 1, 1) := by decide +kernel
theorem dL_act_450 : decode cL_act 450 = .ok (.goto 4, 3) := by decide +kernel
theorem dL_act_453 : decode cL_act 453 = .ok (.iconst 0, 1) := by decide +kernel
theorem dL_act_454 : decode cL_act 454 = .ok (.ireturn, 1) := by decide +kernel
theorem dL_act_455 : decode cL_act 455 = .ok (.iload_n 2, 1) := by decide +kernel
theorem dL_act_456 : decode cL_act 456 = .ok (.iconst 4, 1) := by decide +kernel
theorem dL_act_457 : decode cL_act 457 = .ok (.ishr, 1) := by decide +kernel
theorem dL_act_458 : decode cL_act 458 = .ok (.bipush 7, 2) := by decide +kernel
theorem dL_act_460 : decode cL_act 460 = .ok (.invokestatic 15, 3) := by decide +kernel
theorem dL_act_463 : decode cL_act 463 = .ok (.istore 6, 2) := by decide +kernel
theorem dL_act_465 : decode cL_act 465 = .ok (.aload_n 1, 1) := by decide +kernel
theorem dL_act_466 : decode cL_act 466 = .ok (.getfield 49, 3) := by decide +kernel
theorem dL_act_469 : decode cL_act 469 = .ok (.iload 6, 2) := by decide +kernel
theorem dL_act_471 : decode cL_act 471 = .ok (.iaload, 1) := by decide +kernel
theorem dL_act_472 : decode cL_act 472 = .ok (.istore 7, 2) := by decide +kernel
theorem dL_act_474 : decode cL_act 474 = .ok (.aload_n 1, 1) := by decide +kernel
theorem dL_act_475 : decode cL_act 475 = .ok (.getfield 49, 3) := by decide +kernel
theorem dL_act_478 : decode cL_act 478 = .ok (.iload 6, 2) := by decide +kernel
theorem dL_act_480 : decode cL_act 480 = .ok (.iload_n 2, 1) := by decide +kernel
theorem dL_act_481 : decode cL_act 481 = .ok (.bipush 6, 2) := by decide +kernel
theorem dL_act_483 : decode cL_act 483 = .ok (.ishr, 1) := by decide +kernel
theorem dL_act_484 : decode cL_act 484 = .ok (.bipush 6, 2) := by decide +kernel
theorem dL_act_486 : decode cL_act 486 = .ok (.invokestatic 15, 3) := by decide +kernel
theorem dL_act_489 : decode cL_act 489 = .ok (.iastore, 1) := by decide +kernel
theorem dL_act_490 : decode cL_act 490 = .ok (.aload_n 0, 1) := by decide +kernel
theorem dL_act_491 : decode cL_act 491 = .ok (.iload 6, 2) := by decide +kernel
theorem dL_act_493 : decode cL_act 493 = .ok (.aload_n 1, 1) := by decide +kernel
theorem dL_act_494 : decode cL_act 494 = .ok (.getfield 49, 3) := by decide +kernel
theorem dL_act_497 : decode cL_act 497 = .ok (.iload 6, 2) := by decide +kernel
theorem dL_act_499 : decode cL_act 499 = .ok (.iaload, 1) := by decide +kernel
theorem dL_act_500 : decode cL_act 500 = .ok (.invokevirtual 53, 3) := by decide +kernel
theorem dL_act_503 : decode cL_act 503 = .ok (.iload 7, 2) := by decide +kernel
theorem dL_act_505 : decode cL_act 505 = .ok (.if_icmp .ne 7, 3) := by decide +kernel
theorem dL_act_508 : decode cL_act 508 = .ok (.iconst 1, 1) := by decide +kernel
theorem dL_act_509 : decode cL_act 509 = .ok (.goto 4, 3) := by decide +kernel
theorem dL_act_512 : decode cL_act 512 = .ok (.iconst 0, 1) := by decide +kernel
theorem dL_act_513 : decode cL_act 513 = .ok (.ireturn, 1) := by decide +kernel
theorem dL_act_514 : decode cL_act 514 = .ok (.iload_n 2, 1) := by decide +kernel
theorem dL_act_515 : decode cL_act 515 = .ok (.bipush 6, 2) := by decide +kernel
theorem dL_act_517 : decode cL_act 517 = .ok (.ishr, 1) := by decide +kernel
theorem dL_act_518 : decode cL_act 518 = .ok (.sipush 241, 3) := by decide +kernel
theorem dL_act_521 : decode cL_act 521 = .ok (.invokestatic 15, 3) := by decide +kernel
theorem dL_act_524 : decode cL_act 524 = .ok (.bipush 120, 2) := by decide +kernel
theorem dL_act_526 : decode cL_act 526 = .ok (.isub, 1) := by decide +kernel
theorem dL_act_527 : decode cL_act 527 = .ok (.istore 6, 2) := by decide +kernel
theorem dL_act_529 : decode cL_act 529 = .ok (.iload_n 2, 1) := by decide +kernel
theorem dL_act_530 : decode cL_act 530 = .ok (.iconst 5, 1) := by decide +kernel
theorem dL_act_531 : decode cL_act 531 = .ok (.ishr, 1) := by decide +kernel
theorem dL_act_532 : decode cL_act 532 = .ok (.iconst 2, 1) := by decide +kernel
theorem dL_act_533 : decode cL_act 533 = .ok (.invokestatic 15, 3) := by decide +kernel
theorem dL_act_536 : decode cL_act 536 = .ok (.ifCond .ne 10, 3) := by decide +kernel
theorem dL_act_539 : decode cL_act 539 = .ok (.iload 6, 2) := by decide +kernel
theorem dL_act_541 : decode cL_act 541 = .ok (.bipush 9, 2) := by decide +kernel
theorem dL_act_543 : decode cL_act 543 = .ok (.idiv, 1) := by decide +kernel
theorem dL_act_544 : decode cL_act 544 = .ok (.istore 6, 2) := by decide +kernel
theorem dL_act_546 : decode cL_act 546 = .ok (.aload_n 1, 1) := by decide +kernel
theorem dL_act_547 : decode cL_act 547 = .ok (.getfield 56, 3) := by decide +kernel
theorem dL_act_550 : decode cL_act 550 = .ok (.iload 5, 2) := by decide +kernel
theorem dL_act_552 : decode cL_act 552 = .ok (.bipush (-60), 2) := by decide +kernel
theorem dL_act_554 : decode cL_act 554 = .ok (.bipush 60, 2) := by decide +kernel
theorem dL_act_556 : decode cL_act 556 = .ok (.aload_n 1, 1) := by decide +kernel
theorem dL_act_557 : decode cL_act 557 = .ok (.getfield 56, 3) := by decide +kernel
theorem dL_act_560 : decode cL_act 560 = .ok (.iload 5, 2) := by decide +kernel
theorem dL_act_562 : decode cL_act 562 = .ok (.iaload, 1) := by decide +kernel
theorem dL_act_563 : decode cL_act 563 = .ok (.iload 6, 2) := by decide +kernel
theorem dL_act_565 : decode cL_act 565 = .ok (.iadd, 1) := by decide +kernel
theorem dL_act_566 : decode cL_act 566 = .ok (.invokestatic 59, 3) := by decide +kernel
theorem dL_act_569 : decode cL_act 569 = .ok (.invokestatic 64, 3) := by decide +kernel
theorem dL_act_572 : decode cL_act 572 = .ok (.iastore, 1) := by decide +kernel
theorem dL_act_573 : decode cL_act 573 = .ok (.aload_n 0, 1) := by decide +kernel
theorem dL_act_574 : decode cL_act 574 = .ok (.iload 5, 2) := by decide +kernel
theorem dL_act_576 : decode cL_act 576 = .ok (.iload 6, 2) := by decide +kernel
theorem dL_act_578 : decode cL_act 578 = .ok (.invokevirtual 67, 3) := by decide +kernel
theorem dL_act_581 : decode cL_act 581 = .ok (.aload_n 1, 1) := by decide +kernel
theorem dL_act_582 : decode cL_act 582 = .ok (.getfield 56, 3) := by decide +kernel
theorem dL_act_585 : decode cL_act 585 = .ok (.iload 5, 2) := by decide +kernel
theorem dL_act_587 : decode cL_act 587 = .ok (.iaload, 1) := by decide +kernel
theorem dL_act_588 : decode cL_act 588 = .ok (.if_icmp .ne 7, 3) := by decide +kernel
theorem dL_act_591 : decode cL_act 591 = .ok (.iconst 1, 1) := by decide +kernel
theorem dL_act_592 : decode cL_act 592 = .ok (.goto 4, 3) := by decide +kernel
theorem dL_act_595 : decode cL_act 595 = .ok (.iconst 0, 1) := by decide +kernel
theorem dL_act_596 : decode cL_act 596 = .ok (.ireturn, 1) := by decide +kernel
theorem dL_act_597 : decode cL_act 597 = .ok (.aload_n 1, 1) := by decide +kernel
theorem dL_act_598 : decode cL_act 598 = .ok (.getfield 70, 3) := by decide +kernel
theorem dL_act_601 : decode cL_act 601 = .ok (.iconst 4, 1) := by decide +kernel
theorem dL_act_602 : decode cL_act 602 = .ok (.if_icmp .ge 5, 3) := by decide +kernel
theorem dL_act_605 : decode cL_act 605 = .ok (.iconst 1, 1) := by decide +kernel
theorem dL_act_606 : decode cL_act 606 = .ok (.ireturn, 1) := by decide +kernel
theorem dL_act_607 : decode cL_act 607 = .ok (.aload_n 1, 1) := by decide +kernel
theorem dL_act_608 : decode cL_act 608 = .ok (.getfield 74, 3) := by decide +kernel
theorem dL_act_611 : decode cL_act 611 = .ok (.iload 5, 2) := by decide +kernel
theorem dL_act_613 : decode cL_act 613 = .ok (.iaload, 1) := by decide +kernel
theorem dL_act_614 : decode cL_act 614 = .ok (.istore 6, 2) := by decide +kernel
theorem dL_act_616 : decode cL_act 616 = .ok (.aload_n 1, 1) := by decide +kernel
theorem dL_act_617 : decode cL_act 617 = .ok (.getfield 74, 3) := by decide +kernel
theorem dL_act_620 : decode cL_act 620 = .ok (.iload 5, 2) := by decide +kernel
theorem dL_act_622 : decode cL_act 622 = .ok (.iconst 0, 1) := by decide +kernel
theorem dL_act_623 : decode cL_act 623 = .ok (.iastore, 1) := by decide +kernel
theorem dL_act_624 : decode cL_act 624 = .ok (.aload_n 1, 1) := by decide +kernel
theorem dL_act_625 : decode cL_act 625 = .ok (.dup, 1) := by decide +kernel
theorem dL_act_626 : decode cL_act 626 = .ok (.getfield 70, 3) := by decide +kernel
theorem dL_act_629 : decode cL_act 629 = .ok (.iconst 4, 1) := by decide +kernel
theorem dL_act_630 : decode cL_act 630 = .ok (.isub, 1) := by decide +kernel
theorem dL_act_631 : decode cL_act 631 = .ok (.putfield 70, 3) := by decide +kernel
theorem dL_act_634 : decode cL_act 634 = .ok (.aload_n 0, 1) := by decide +kernel
theorem dL_act_635 : decode cL_act 635 = .ok (.iload 5, 2) := by decide +kernel
theorem dL_act_637 : decode cL_act 637 = .ok (.invokevirtual 77, 3) := by decide +kernel
theorem dL_act_640 : decode cL_act 640 = .ok (.iload 6, 2) := by decide +kernel
theorem dL_act_642 : decode cL_act 642 = .ok (.if_icmp .ne 7, 3) := by decide +kernel
theorem dL_act_645 : decode cL_act 645 = .ok (.iconst 1, 1) := by decide +kernel
theorem dL_act_646 : decode cL_act 646 = .ok (.goto 4, 3) := by decide +kernel
theorem dL_act_649 : decode cL_act 649 = .ok (.iconst 0, 1) := by decide +kernel
theorem dL_act_650 : decode cL_act 650 = .ok (.ireturn, 1) := by decide +kernel
theorem dL_act_651 : decode cL_act 651 = .ok (.iload_n 2, 1) := by decide +kernel
theorem dL_act_652 : decode cL_act 652 = .ok (.iconst 5, 1) := by decide +kernel
theorem dL_act_653 : decode cL_act 653 = .ok (.ishr, 1) := by decide +kernel
theorem dL_act_654 : decode cL_act 654 = .ok (.iconst 3, 1) := by decide +kernel
theorem dL_act_655 : decode cL_act 655 = .ok (.invokestatic 15, 3) := by decide +kernel
theorem dL_act_658 : decode cL_act 658 = .ok (.ifCond .le 5, 3) := by decide +kernel
theorem dL_act_661 : decode cL_act 661 = .ok (.iconst 1, 1) := by decide +kernel
theorem dL_act_662 : decode cL_act 662 = .ok (.ireturn, 1) := by decide +kernel
theorem dL_act_663 : decode cL_act 663 = .ok (.aload_n 1, 1) := by decide +kernel
theorem dL_act_664 : decode cL_act 664 = .ok (.invokevirtual 81, 3) := by decide +kernel
theorem dL_act_667 : decode cL_act 667 = .ok (.istore 6, 2) := by decide +kernel
theorem dL_act_669 : decode cL_act 669 = .ok (.aload_n 1, 1) := by decide +kernel
theorem dL_act_670 : decode cL_act 670 = .ok (.bipush 12, 2) := by decide +kernel
theorem dL_act_672 : decode cL_act 672 = .ok (.newarray .boolean, 2) := by decide +kernel
theorem dL_act_674 : decode cL_act 674 = .ok (.putfield 84, 3) := by decide +kernel
theorem dL_act_677 : decode cL_act 677 = .ok (.aload_n 0, 1) := by decide +kernel
theorem dL_act_678 : decode cL_act 678 = .ok (.invokevirtual 88, 3) := by decide +kernel
theorem dL_act_681 : decode cL_act 681 = .ok (.iload 6, 2) := by decide +kernel
theorem dL_act_683 : decode cL_act 683 = .ok (.if_icmp .ne 7, 3) := by decide +kernel
theorem dL_act_686 : decode cL_act 686 = .ok (.iconst 1, 1) := by decide +kernel
theorem dL_act_687 : decode cL_act 687 = .ok (.goto 4, 3) := by decide +kernel
theorem dL_act_690 : decode cL_act 690 = .ok (.iconst 0, 1) := by decide +kernel
theorem dL_act_691 : decode cL_act 691 = .ok (.ireturn, 1) := by decide +kernel
theorem dL_act_692 : decode cL_act 692 = .ok (.iload_n 3, 1) := by decide +kernel
theorem dL_act_693 : decode cL_act 693 = .ok (.ifCond .lt 18, 3) := by decide +kernel
theorem dL_act_696 : decode cL_act 696 = .ok (.iload 4, 2) := by decide +kernel
theorem dL_act_698 : decode cL_act 698 = .ok (.ifCond .lt 13, 3) := by decide +kernel
theorem dL_act_701 : decode cL_act 701 = .ok (.aload_n 1, 1) := by decide +kernel
theorem dL_act_702 : decode cL_act 702 = .ok (.getfield 9, 3) := by decide +kernel
theorem dL_act_705 : decode cL_act 705 = .ok (.iload_n 3, 1) := by decide +kernel
theorem dL_act_706 : decode cL_act 706 = .ok (.aaload, 1) := by decide +kernel
theorem dL_act_707 : decode cL_act 707 = .ok (.arraylength, 1) := by decide +kernel
theorem dL_act_708 : decode cL_act 708 = .ok (.ifCond .ne 5, 3) := by decide +kernel
theorem dL_act_711 : decode cL_act 711 = .ok (.iconst 1, 1) := by decide +kernel
theorem dL_act_712 : decode cL_act 712 = .ok (.ireturn, 1) := by decide +kernel
theorem dL_act_713 : decode cL_act 713 = .ok (.iload_n 2, 1) := by decide +kernel
theorem dL_act_714 : decode cL_act 714 = .ok (.bipush 7, 2) := by decide +kernel
theorem dL_act_716 : decode cL_act 716 = .ok (.ishr, 1) := by decide +kernel
theorem dL_act_717 : decode cL_act 717 = .ok (.iconst 5, 1) := by decide +kernel
theorem dL_act_718 : decode cL_act 718 = .ok (.invokestatic 15, 3) := by decide +kernel
theorem dL_act_721 : decode cL_act 721 = .ok (.istore 6, 2) := by decide +kernel
theorem dL_act_723 : decode cL_act 723 = .ok (.iload 6, 2) := by decide +kernel
theorem dL_act_725 : decode cL_act 725 = .ok (.ifCond .lt 28, 3) := by decide +kernel
theorem dL_act_728 : decode cL_act 728 = .ok (.aload_n 0, 1) := by decide +kernel
theorem dL_act_729 : decode cL_act 729 = .ok (.iload 4, 2) := by decide +kernel
theorem dL_act_731 : decode cL_act 731 = .ok (.iload_n 3, 1) := by decide +kernel
theorem dL_act_732 : decode cL_act 732 = .ok (.invokevirtual 91, 3) := by decide +kernel
theorem dL_act_735 : decode cL_act 735 = .ok (.aload_n 1, 1) := by decide +kernel
theorem dL_act_736 : decode cL_act 736 = .ok (.iload 4, 2) := by decide +kernel
theorem dL_act_738 : decode cL_act 738 = .ok (.iload_n 3, 1) := by decide +kernel
theorem dL_act_739 : decode cL_act 739 = .ok (.invokevirtual 94, 3) := by decide +kernel
theorem dL_act_742 : decode cL_act 742 = .ok (.if_icmp .eq 5, 3) := by decide +kernel
theorem dL_act_745 : decode cL_act 745 = .ok (.iconst 0, 1) := by decide +kernel
theorem dL_act_746 : decode cL_act 746 = .ok (.ireturn, 1) := by decide +kernel
theorem dL_act_747 : decode cL_act 747 = .ok (.iinc 6 (-1), 3) := by decide +kernel
theorem dL_act_750 : decode cL_act 750 = .ok (.goto (-27), 3) := by decide +kernel
theorem dL_act_753 : decode cL_act 753 = .ok (.iconst 1, 1) := by decide +kernel
theorem dL_act_754 : decode cL_act 754 = .ok (.ireturn, 1) := by decide +kernel
theorem dL_build_0 : decode cL_build 0 = .ok (.new 10, 3) := by decide +kernel
theorem dL_build_3 : decode cL_build 3 = .ok (.dup, 1) := by decide +kernel
theorem dL_build_4 : decode cL_build 4 = .ok (.invokespecial 95, 3) := by decide +kernel
theorem dL_build_7 : decode cL_build 7 = .ok (.astore_n 2, 1) := by decide +kernel
theorem dL_build_8 : decode cL_build 8 = .ok (.iconst 0, 1) := by decide +kernel
theorem dL_build_9 : decode cL_build 9 = .ok (.istore_n 3, 1) := by decide +kernel
theorem dL_build_10 : decode cL_build 10 = .ok (.iload_n 3, 1) := by decide +kernel
theorem dL_build_11 : decode cL_build 11 = .ok (.bipush 40, 2) := by decide +kernel
theorem dL_build_13 : decode cL_build 13 = .ok (.if_icmp .ge 116, 3) := by decide +kernel
theorem dL_build_16 : decode cL_build 16 = .ok (.aload_n 1, 1) := by decide +kernel
theorem dL_build_17 : decode cL_build 17 = .ok (.iload_n 3, 1) := by decide +kernel
theorem dL_build_18 : decode cL_build 18 = .ok (.bipush 16, 2) := by decide +kernel
theorem dL_build_20 : decode cL_build 20 = .ok (.irem, 1) := by decide +kernel
theorem dL_build_21 : decode cL_build 21 = .ok (.invokestatic 96, 3) := by decide +kernel
theorem dL_build_24 : decode cL_build 24 = .ok (.iload_n 3, 1) := by decide +kernel
theorem dL_build_25 : decode cL_build 25 = .ok (.bipush 16, 2) := by decide +kernel
theorem dL_build_27 : decode cL_build 27 = .ok (.idiv, 1) := by decide +kernel
theorem dL_build_28 : decode cL_build 28 = .ok (.iconst 5, 1) := by decide +kernel
theorem dL_build_29 : decode cL_build 29 = .ok (.imul, 1) := by decide +kernel
theorem dL_build_30 : decode cL_build 30 = .ok (.ishr, 1) := by decide +kernel
theorem dL_build_31 : decode cL_build 31 = .ok (.bipush 61, 2) := by decide +kernel
theorem dL_build_33 : decode cL_build 33 = .ok (.iload_n 3, 1) := by decide +kernel
theorem dL_build_34 : decode cL_build 34 = .ok (.imul, 1) := by decide +kernel
theorem dL_build_35 : decode cL_build 35 = .ok (.iadd, 1) := by decide +kernel
theorem dL_build_36 : decode cL_build 36 = .ok (.istore 4, 2) := by decide +kernel
theorem dL_build_38 : decode cL_build 38 = .ok (.iload_n 3, 1) := by decide +kernel
theorem dL_build_39 : decode cL_build 39 = .ok (.iconst 4, 1) := by decide +kernel
theorem dL_build_40 : decode cL_build 40 = .ok (.if_icmp .ge 11, 3) := by decide +kernel
theorem dL_build_43 : decode cL_build 43 = .ok (.iload_n 3, 1) := by decide +kernel
theorem dL_build_44 : decode cL_build 44 = .ok (.iconst 2, 1) := by decide +kernel
theorem dL_build_45 : decode cL_build 45 = .ok (.irem, 1) := by decide +kernel
theorem dL_build_46 : decode cL_build 46 = .ok (.iconst 4, 1) := by decide +kernel
theorem dL_build_47 : decode cL_build 47 = .ok (.imul, 1) := by decide +kernel
theorem dL_build_48 : decode cL_build 48 = .ok (.goto 18, 3) := by decide +kernel
theorem dL_build_51 : decode cL_build 51 = .ok (.iload_n 3, 1) := by decide +kernel
theorem dL_build_52 : decode cL_build 52 = .ok (.bipush 10, 2) := by decide +kernel
theorem dL_build_54 : decode cL_build 54 = .ok (.if_icmp .ge 11, 3) := by decide +kernel
theorem dL_build_57 : decode cL_build 57 = .ok (.iconst 1, 1) := by decide +kernel
theorem dL_build_58 : decode cL_build 58 = .ok (.iload_n 3, 1) := by decide +kernel
theorem dL_build_59 : decode cL_build 59 = .ok (.iconst 3, 1) := by decide +kernel
theorem dL_build_60 : decode cL_build 60 = .ok (.irem, 1) := by decide +kernel
theorem dL_build_61 : decode cL_build 61 = .ok (.iadd, 1) := by decide +kernel
theorem dL_build_62 : decode cL_build 62 = .ok (.goto 4, 3) := by decide +kernel
theorem dL_build_65 : decode cL_build 65 = .ok (.iconst (-1), 1) := by decide +kernel
theorem dL_build_66 : decode cL_build 66 = .ok (.istore 5, 2) := by decide +kernel
theorem dL_build_68 : decode cL_build 68 = .ok (.iload 5, 2) := by decide +kernel
theorem dL_build_70 : decode cL_build 70 = .ok (.ifCond .lt 18, 3) := by decide +kernel
theorem dL_build_73 : decode cL_build 73 = .ok (.iload 4, 2) := by decide +kernel
theorem dL_build_75 : decode cL_build 75 = .ok (.ldc 100, 2) := by decide +kernel
theorem dL_build_77 : decode cL_build 77 = .ok (.invokestatic 15, 3) := by decide +kernel
theorem dL_build_80 : decode cL_build 80 = .ok (.bipush 13, 2) := by decide +kernel
theorem dL_build_82 : decode cL_build 82 = .ok (.imul, 1) := by decide +kernel
theorem dL_build_83 : decode cL_build 83 = .ok (.iload 5, 2) := by decide +kernel
theorem dL_build_85 : decode cL_build 85 = .ok (.iadd, 1) := by decide +kernel
theorem dL_build_86 : decode cL_build 86 = .ok (.istore 4, 2) := by decide +kernel
theorem dL_build_88 : decode cL_build 88 = .ok (.aload_n 0, 1) := by decide +kernel
theorem dL_build_89 : decode cL_build 89 = .ok (.aload_n 2, 1) := by decide +kernel
theorem dL_build_90 : decode cL_build 90 = .ok (.iload 4, 2) := by decide +kernel
theorem dL_build_92 : decode cL_build 92 = .ok (.invokestatic 101, 3) := by decide +kernel
theorem dL_build_95 : decode cL_build 95 = .ok (.ifCond .ne 5, 3) := by decide +kernel
theorem dL_build_98 : decode cL_build 98 = .ok (.aconst_null, 1) := by decide +kernel
theorem dL_build_99 : decode cL_build 99 = .ok (.areturn, 1) := by decide +kernel
theorem dL_build_100 : decode cL_build 100 = .ok (.iload_n 3, 1) := by decide +kernel
theorem dL_build_101 : decode cL_build 101 = .ok (.bipush 13, 2) := by decide +kernel
theorem dL_build_103 : decode cL_build 103 = .ok (.irem, 1) := by decide +kernel
theorem dL_build_104 : decode cL_build 104 = .ok (.bipush 12, 2) := by decide +kernel
theorem dL_build_106 : decode cL_build 106 = .ok (.if_icmp .ne 17, 3) := by decide +kernel
theorem dL_build_109 : decode cL_build 109 = .ok (.aload_n 0, 1) := by decide +kernel
theorem dL_build_110 : decode cL_build 110 = .ok (.iconst 1, 1) := by decide +kernel
theorem dL_build_111 : decode cL_build 111 = .ok (.invokevirtual 105, 3) := by decide +kernel
theorem dL_build_114 : decode cL_build 114 = .ok (.aload_n 2, 1) := by decide +kernel
theorem dL_build_115 : decode cL_build 115 = .ok (.invokevirtual 108, 3) := by decide +kernel
theorem dL_build_118 : decode cL_build 118 = .ok (.if_icmp .eq 5, 3) := by decide +kernel
theorem dL_build_121 : decode cL_build 121 = .ok (.aconst_null, 1) := by decide +kernel
theorem dL_build_122 : decode cL_build 122 = .ok (.areturn, 1) := by decide +kernel
theorem dL_build_123 : decode cL_build 123 = .ok (.iinc 3 1, 3) := by decide +kernel
theorem dL_build_126 : decode cL_build 126 = .ok (.goto (-116), 3) := by decide +kernel
theorem dL_build_129 : decode cL_build 129 = .ok (.aload_n 2, 1) := by decide +kernel
theorem dL_build_130 : decode cL_build 130 = .ok (.areturn, 1) := by decide +kernel
theorem dL_law_0 : decode cL_law 0 = .ok (.new 29, 3) := by decide +kernel
theorem dL_law_3 : decode cL_law 3 = .ok (.dup, 1) := by decide +kernel
theorem dL_law_4 : decode cL_law 4 = .ok (.invokespecial 110, 3) := by decide +kernel
theorem dL_law_7 : decode cL_law 7 = .ok (.astore_n 1, 1) := by decide +kernel
theorem dL_law_8 : decode cL_law 8 = .ok (.aload_n 1, 1) := by decide +kernel
theorem dL_law_9 : decode cL_law 9 = .ok (.aload_n 0, 1) := by decide +kernel
theorem dL_law_10 : decode cL_law 10 = .ok (.invokestatic 111, 3) := by decide +kernel
theorem dL_law_13 : decode cL_law 13 = .ok (.astore_n 2, 1) := by decide +kernel
theorem dL_law_14 : decode cL_law 14 = .ok (.aload_n 2, 1) := by decide +kernel
theorem dL_law_15 : decode cL_law 15 = .ok (.ifnonnull 5, 3) := by decide +kernel
theorem dL_law_18 : decode cL_law 18 = .ok (.iconst 0, 1) := by decide +kernel
theorem dL_law_19 : decode cL_law 19 = .ok (.ireturn, 1) := by decide +kernel
theorem dL_law_20 : decode cL_law 20 = .ok (.iconst 0, 1) := by decide +kernel
theorem dL_law_21 : decode cL_law 21 = .ok (.istore_n 3, 1) := by decide +kernel
theorem dL_law_22 : decode cL_law 22 = .ok (.iload_n 3, 1) := by decide +kernel
theorem dL_law_23 : decode cL_law 23 = .ok (.bipush 50, 2) := by decide +kernel
theorem dL_law_25 : decode cL_law 25 = .ok (.if_icmp .ge 1087, 3) := by decide +kernel
theorem dL_law_28 : decode cL_law 28 = .ok (.aload_n 0, 1) := by decide +kernel
theorem dL_law_29 : decode cL_law 29 = .ok (.iload_n 3, 1) := by decide +kernel
theorem dL_law_30 : decode cL_law 30 = .ok (.bipush 16, 2) := by decide +kernel
theorem dL_law_32 : decode cL_law 32 = .ok (.irem, 1) := by decide +kernel
theorem dL_law_33 : decode cL_law 33 = .ok (.invokestatic 96, 3) := by decide +kernel
theorem dL_law_36 : decode cL_law 36 = .ok (.iload_n 3, 1) := by decide +kernel
theorem dL_law_37 : decode cL_law 37 = .ok (.bipush 16, 2) := by decide +kernel
theorem dL_law_39 : decode cL_law 39 = .ok (.idiv, 1) := by decide +kernel
theorem dL_law_40 : decode cL_law 40 = .ok (.iconst 5, 1) := by decide +kernel
theorem dL_law_41 : decode cL_law 41 = .ok (.imul, 1) := by decide +kernel
theorem dL_law_42 : decode cL_law 42 = .ok (.ishr, 1) := by decide +kernel
theorem dL_law_43 : decode cL_law 43 = .ok (.bipush 53, 2) := by decide +kernel
theorem dL_law_45 : decode cL_law 45 = .ok (.iload_n 3, 1) := by decide +kernel
theorem dL_law_46 : decode cL_law 46 = .ok (.imul, 1) := by decide +kernel
theorem dL_law_47 : decode cL_law 47 = .ok (.iadd, 1) := by decide +kernel
theorem dL_law_48 : decode cL_law 48 = .ok (.istore 4, 2) := by decide +kernel
theorem dL_law_50 : decode cL_law 50 = .ok (.bipush 12, 2) := by decide +kernel
theorem dL_law_52 : decode cL_law 52 = .ok (.newarray .int, 2) := by decide +kernel
theorem dL_law_54 : decode cL_law 54 = .ok (.astore 5, 2) := by decide +kernel
theorem dL_law_56 : decode cL_law 56 = .ok (.bipush 12, 2) := by decide +kernel
theorem dL_law_58 : decode cL_law 58 = .ok (.newarray .int, 2) := by decide +kernel
theorem dL_law_60 : decode cL_law 60 = .ok (.astore 6, 2) := by decide +kernel
theorem dL_law_62 : decode cL_law 62 = .ok (.bipush 12, 2) := by decide +kernel
theorem dL_law_64 : decode cL_law 64 = .ok (.newarray .boolean, 2) := by decide +kernel
theorem dL_law_66 : decode cL_law 66 = .ok (.astore 7, 2) := by decide +kernel
theorem dL_law_68 : decode cL_law 68 = .ok (.iconst 0, 1) := by decide +kernel
theorem dL_law_69 : decode cL_law 69 = .ok (.istore 8, 2) := by decide +kernel
theorem dL_law_71 : decode cL_law 71 = .ok (.iload 8, 2) := by decide +kernel
theorem dL_law_73 : decode cL_law 73 = .ok (.bipush 12, 2) := by decide +kernel
theorem dL_law_75 : decode cL_law 75 = .ok (.if_icmp .ge 53, 3) := by decide +kernel
theorem dL_law_78 : decode cL_law 78 = .ok (.aload 5, 2) := by decide +kernel
theorem dL_law_80 : decode cL_law 80 = .ok (.iload 8, 2) := by decide +kernel
theorem dL_law_82 : decode cL_law 82 = .ok (.aload_n 1, 1) := by decide +kernel
theorem dL_law_83 : decode cL_law 83 = .ok (.iload 8, 2) := by decide +kernel
theorem dL_law_85 : decode cL_law 85 = .ok (.iconst 0, 1) := by decide +kernel
theorem dL_law_86 : decode cL_law 86 = .ok (.invokevirtual 115, 3) := by decide +kernel
theorem dL_law_89 : decode cL_law 89 = .ok (.iastore, 1) := by decide +kernel
theorem dL_law_90 : decode cL_law 90 = .ok (.aload 6, 2) := by decide +kernel
theorem dL_law_92 : decode cL_law 92 = .ok (.iload 8, 2) := by decide +kernel
theorem dL_law_94 : decode cL_law 94 = .ok (.aload_n 1, 1) := by decide +kernel
theorem dL_law_95 : decode cL_law 95 = .ok (.iload 8, 2) := by decide +kernel
theorem dL_law_97 : decode cL_law 97 = .ok (.iconst 1, 1) := by decide +kernel
theorem dL_law_98 : decode cL_law 98 = .ok (.invokevirtual 115, 3) := by decide +kernel
theorem dL_law_101 : decode cL_law 101 = .ok (.iastore, 1) := by decide +kernel
theorem dL_law_102 : decode cL_law 102 = .ok (.aload 7, 2) := by decide +kernel
theorem dL_law_104 : decode cL_law 104 = .ok (.iload 8, 2) := by decide +kernel
theorem dL_law_106 : decode cL_law 106 = .ok (.aload_n 1, 1) := by decide +kernel
theorem dL_law_107 : decode cL_law 107 = .ok (.iload 8, 2) := by decide +kernel
theorem dL_law_109 : decode cL_law 109 = .ok (.iconst 4, 1) := by decide +kernel
theorem dL_law_110 : decode cL_law 110 = .ok (.invokevirtual 115, 3) := by decide +kernel
theorem dL_law_113 : decode cL_law 113 = .ok (.ifCond .ne 7, 3) := by decide +kernel
theorem dL_law_116 : decode cL_law 116 = .ok (.iconst 1, 1) := by decide +kernel
theorem dL_law_117 : decode cL_law 117 = .ok (.goto 4, 3) := by decide +kernel
theorem dL_law_120 : decode cL_law 120 = .ok (.iconst 0, 1) := by decide +kernel
theorem dL_law_121 : decode cL_law 121 = .ok (.bastore, 1) := by decide +kernel
theorem dL_law_122 : decode cL_law 122 = .ok (.iinc 8 1, 3) := by decide +kernel
theorem dL_law_125 : decode cL_law 125 = .ok (.goto (-54), 3) := by decide +kernel
theorem dL_law_128 : decode cL_law 128 = .ok (.aload_n 1, 1) := by decide +kernel
theorem dL_law_129 : decode cL_law 129 = .ok (.iconst 2, 1) := by decide +kernel
theorem dL_law_130 : decode cL_law 130 = .ok (.invokevirtual 118, 3) := by decide +kernel
theorem dL_law_133 : decode cL_law 133 = .ok (.istore 8, 2) := by decide +kernel
theorem dL_law_135 : decode cL_law 135 = .ok (.aload_n 1, 1) := by decide +kernel
theorem dL_law_136 : decode cL_law 136 = .ok (.bipush 8, 2) := by decide +kernel
theorem dL_law_138 : decode cL_law 138 = .ok (.invokevirtual 118, 3) := by decide +kernel
theorem dL_law_141 : decode cL_law 141 = .ok (.istore 9, 2) := by decide +kernel
theorem dL_law_143 : decode cL_law 143 = .ok (.aload_n 1, 1) := by decide +kernel
theorem dL_law_144 : decode cL_law 144 = .ok (.iconst 0, 1) := by decide +kernel
theorem dL_law_145 : decode cL_law 145 = .ok (.invokevirtual 118, 3) := by decide +kernel
theorem dL_law_148 : decode cL_law 148 = .ok (.istore 10, 2) := by decide +kernel
theorem dL_law_150 : decode cL_law 150 = .ok (.aload_n 1, 1) := by decide +kernel
theorem dL_law_151 : decode cL_law 151 = .ok (.iconst 5, 1) := by decide +kernel
theorem dL_law_152 : decode cL_law 152 = .ok (.invokevirtual 118, 3) := by decide +kernel
theorem dL_law_155 : decode cL_law 155 = .ok (.istore 11, 2) := by decide +kernel
theorem dL_law_157 : decode cL_law 157 = .ok (.aload_n 1, 1) := by decide +kernel
theorem dL_law_158 : decode cL_law 158 = .ok (.iconst 3, 1) := by decide +kernel
theorem dL_law_159 : decode cL_law 159 = .ok (.invokevirtual 118, 3) := by decide +kernel
theorem dL_law_162 : decode cL_law 162 = .ok (.istore 12, 2) := by decide +kernel
theorem dL_law_164 : decode cL_law 164 = .ok (.aload_n 1, 1) := by decide +kernel
theorem dL_law_165 : decode cL_law 165 = .ok (.iconst 4, 1) := by decide +kernel
theorem dL_law_166 : decode cL_law 166 = .ok (.invokevirtual 118, 3) := by decide +kernel
theorem dL_law_169 : decode cL_law 169 = .ok (.istore 13, 2) := by decide +kernel
theorem dL_law_171 : decode cL_law 171 = .ok (.iconst 0, 1) := by decide +kernel
theorem dL_law_172 : decode cL_law 172 = .ok (.istore 14, 2) := by decide +kernel
theorem dL_law_174 : decode cL_law 174 = .ok (.iconst 0, 1) := by decide +kernel
theorem dL_law_175 : decode cL_law 175 = .ok (.istore 15, 2) := by decide +kernel
theorem dL_law_177 : decode cL_law 177 = .ok (.iload 15, 2) := by decide +kernel
theorem dL_law_179 : decode cL_law 179 = .ok (.iload 13, 2) := by decide +kernel
theorem dL_law_181 : decode cL_law 181 = .ok (.if_icmp .ge 21, 3) := by decide +kernel
theorem dL_law_184 : decode cL_law 184 = .ok (.iload 14, 2) := by decide +kernel
theorem dL_law_186 : decode cL_law 186 = .ok (.aload_n 1, 1) := by decide +kernel
theorem dL_law_187 : decode cL_law 187 = .ok (.iload 15, 2) := by decide +kernel
theorem dL_law_189 : decode cL_law 189 = .ok (.iconst 3, 1) := by decide +kernel
theorem dL_law_190 : decode cL_law 190 = .ok (.invokevirtual 121, 3) := by decide +kernel
theorem dL_law_193 : decode cL_law 193 = .ok (.iadd, 1) := by decide +kernel
theorem dL_law_194 : decode cL_law 194 = .ok (.istore 14, 2) := by decide +kernel
theorem dL_law_196 : decode cL_law 196 = .ok (.iinc 15 1, 3) := by decide +kernel
theorem dL_law_199 : decode cL_law 199 = .ok (.goto (-22), 3) := by decide +kernel
theorem dL_law_202 : decode cL_law 202 = .ok (.aload_n 1, 1) := by decide +kernel
theorem dL_law_203 : decode cL_law 203 = .ok (.invokevirtual 124, 3) := by decide +kernel
theorem dL_law_206 : decode cL_law 206 = .ok (.lstore 15, 2) := by decide +kernel
theorem dL_law_208 : decode cL_law 208 = .ok (.iload 4, 2) := by decide +kernel
theorem dL_law_210 : decode cL_law 210 = .ok (.iconst 4, 1) := by decide +kernel
theorem dL_law_211 : decode cL_law 211 = .ok (.invokestatic 15, 3) := by decide +kernel
theorem dL_law_214 : decode cL_law 214 = .ok (.ifCond .ne 256, 3) := by decide +kernel
theorem dL_law_217 : decode cL_law 217 = .ok (.aload_n 1, 1) := by decide +kernel
theorem dL_law_218 : decode cL_law 218 = .ok (.iload 10, 2) := by decide +kernel
theorem dL_law_220 : decode cL_law 220 = .ok (.bipush 7, 2) := by decide +kernel
theorem dL_law_222 : decode cL_law 222 = .ok (.irem, 1) := by decide +kernel
theorem dL_law_223 : decode cL_law 223 = .ok (.iconst 0, 1) := by decide +kernel
theorem dL_law_224 : decode cL_law 224 = .ok (.invokevirtual 53, 3) := by decide +kernel
theorem dL_law_227 : decode cL_law 227 = .ok (.istore 17, 2) := by decide +kernel
theorem dL_law_229 : decode cL_law 229 = .ok (.aload_n 1, 1) := by decide +kernel
theorem dL_law_230 : decode cL_law 230 = .ok (.iload 10, 2) := by decide +kernel
theorem dL_law_232 : decode cL_law 232 = .ok (.bipush 7, 2) := by decide +kernel
theorem dL_law_234 : decode cL_law 234 = .ok (.irem, 1) := by decide +kernel
theorem dL_law_235 : decode cL_law 235 = .ok (.iload 17, 2) := by decide +kernel
theorem dL_law_237 : decode cL_law 237 = .ok (.invokevirtual 53, 3) := by decide +kernel
theorem dL_law_240 : decode cL_law 240 = .ok (.pop, 1) := by decide +kernel
theorem dL_law_241 : decode cL_law 241 = .ok (.aload_n 1, 1) := by decide +kernel
theorem dL_law_242 : decode cL_law 242 = .ok (.iconst 1, 1) := by decide +kernel
theorem dL_law_243 : decode cL_law 243 = .ok (.iconst 5, 1) := by decide +kernel
theorem dL_law_244 : decode cL_law 244 = .ok (.invokevirtual 128, 3) := by decide +kernel
theorem dL_law_247 : decode cL_law 247 = .ok (.istore 18, 2) := by decide +kernel
theorem dL_law_249 : decode cL_law 249 = .ok (.aload_n 1, 1) := by decide +kernel
theorem dL_law_250 : decode cL_law 250 = .ok (.invokevirtual 124, 3) := by decide +kernel
theorem dL_law_253 : decode cL_law 253 = .ok (.lload 15, 2) := by decide +kernel
theorem dL_law_255 : decode cL_law 255 = .ok (.lcmp, 1) := by decide +kernel
theorem dL_law_256 : decode cL_law 256 = .ok (.ifCond .eq 5, 3) := by decide +kernel
theorem dL_law_259 : decode cL_law 259 = .ok (.iconst 0, 1) := by decide +kernel
theorem dL_law_260 : decode cL_law 260 = .ok (.ireturn, 1) := by decide +kernel
theorem dL_law_261 : decode cL_law 261 = .ok (.aload_n 1, 1) := by decide +kernel
theorem dL_law_262 : decode cL_law 262 = .ok (.iconst 1, 1) := by decide +kernel
theorem dL_law_263 : decode cL_law 263 = .ok (.invokevirtual 105, 3) := by decide +kernel
theorem dL_law_266 : decode cL_law 266 = .ok (.istore 19, 2) := by decide +kernel
theorem dL_law_268 : decode cL_law 268 = .ok (.aload_n 2, 1) := by decide +kernel
theorem dL_law_269 : decode cL_law 269 = .ok (.invokevirtual 108, 3) := by decide +kernel
theorem dL_law_272 : decode cL_law 272 = .ok (.iload 19, 2) := by decide +kernel
theorem dL_law_274 : decode cL_law 274 = .ok (.if_icmp .ne 48, 3) := by decide +kernel
theorem dL_law_277 : decode cL_law 277 = .ok (.aload_n 1, 1) := by decide +kernel
theorem dL_law_278 : decode cL_law 278 = .ok (.iconst 5, 1) := by decide +kernel
theorem dL_law_279 : decode cL_law 279 = .ok (.invokevirtual 118, 3) := by decide +kernel
theorem dL_law_282 : decode cL_law 282 = .ok (.iload 11, 2) := by decide +kernel
theorem dL_law_284 : decode cL_law 284 = .ok (.iload 19, 2) := by decide +kernel
theorem dL_law_286 : decode cL_law 286 = .ok (.iadd, 1) := by decide +kernel
theorem dL_law_287 : decode cL_law 287 = .ok (.if_icmp .ne 35, 3) := by decide +kernel
theorem dL_law_290 : decode cL_law 290 = .ok (.aload_n 1, 1) := by decide +kernel
theorem dL_law_291 : decode cL_law 291 = .ok (.iconst 5, 1) := by decide +kernel
theorem dL_law_292 : decode cL_law 292 = .ok (.invokevirtual 118, 3) := by decide +kernel
theorem dL_law_295 : decode cL_law 295 = .ok (.iload 18, 2) := by decide +kernel
theorem dL_law_297 : decode cL_law 297 = .ok (.if_icmp .ne 25, 3) := by decide +kernel
theorem dL_law_300 : decode cL_law 300 = .ok (.aload_n 1, 1) := by decide +kernel
theorem dL_law_301 : decode cL_law 301 = .ok (.iconst 2, 1) := by decide +kernel
theorem dL_law_302 : decode cL_law 302 = .ok (.invokevirtual 118, 3) := by decide +kernel
theorem dL_law_305 : decode cL_law 305 = .ok (.iload 8, 2) := by decide +kernel
theorem dL_law_307 : decode cL_law 307 = .ok (.if_icmp .ne 15, 3) := by decide +kernel
theorem dL_law_310 : decode cL_law 310 = .ok (.aload_n 1, 1) := by decide +kernel
theorem dL_law_311 : decode cL_law 311 = .ok (.iconst 0, 1) := by decide +kernel
theorem dL_law_312 : decode cL_law 312 = .ok (.invokevirtual 118, 3) := by decide +kernel
theorem dL_law_315 : decode cL_law 315 = .ok (.iload 10, 2) := by decide +kernel
theorem dL_law_317 : decode cL_law 317 = .ok (.iconst 1, 1) := by decide +kernel
theorem dL_law_318 : decode cL_law 318 = .ok (.iadd, 1) := by decide +kernel
theorem dL_law_319 : decode cL_law 319 = .ok (.if_icmp .eq 5, 3) := by decide +kernel
theorem dL_law_322 : decode cL_law 322 = .ok (.iconst 0, 1) := by decide +kernel
theorem dL_law_323 : decode cL_law 323 = .ok (.ireturn, 1) := by decide +kernel
theorem dL_law_324 : decode cL_law 324 = .ok (.iconst 0, 1) := by decide +kernel
theorem dL_law_325 : decode cL_law 325 = .ok (.istore 20, 2) := by decide +kernel
theorem dL_law_327 : decode cL_law 327 = .ok (.iload 20, 2) := by decide +kernel
theorem dL_law_329 : decode cL_law 329 = .ok (.bipush 12, 2) := by decide +kernel
theorem dL_law_331 : decode cL_law 331 = .ok (.if_icmp .ge 136, 3) := by decide +kernel
theorem dL_law_334 : decode cL_law 334 = .ok (.aload_n 1, 1) := by decide +kernel
theorem dL_law_335 : decode cL_law 335 = .ok (.iload 20, 2) := by decide +kernel
theorem dL_law_337 : decode cL_law 337 = .ok (.iconst 1, 1) := by decide +kernel
theorem dL_law_338 : decode cL_law 338 = .ok (.invokevirtual 115, 3) := by decide +kernel
theorem dL_law_341 : decode cL_law 341 = .ok (.aload 6, 2) := by decide +kernel
theorem dL_law_343 : decode cL_law 343 = .ok (.iload 20, 2) := by decide +kernel
theorem dL_law_345 : decode cL_law 345 = .ok (.iaload, 1) := by decide +kernel
theorem dL_law_346 : decode cL_law 346 = .ok (.isub, 1) := by decide +kernel
theorem dL_law_347 : decode cL_law 347 = .ok (.istore 21, 2) := by decide +kernel
theorem dL_law_349 : decode cL_law 349 = .ok (.aload_n 1, 1) := by decide +kernel
theorem dL_law_350 : decode cL_law 350 = .ok (.iload 20, 2) := by decide +kernel
theorem dL_law_352 : decode cL_law 352 = .ok (.iconst 1, 1) := by decide +kernel
theorem dL_law_353 : decode cL_law 353 = .ok (.invokevirtual 115, 3) := by decide +kernel
theorem dL_law_356 : decode cL_law 356 = .ok (.invokestatic 131, 3) := by decide +kernel
theorem dL_law_359 : decode cL_law 359 = .ok (.bipush 60, 2) := by decide +kernel
theorem dL_law_361 : decode cL_law 361 = .ok (.if_icmp .ne 7, 3) := by decide +kernel
theorem dL_law_364 : decode cL_law 364 = .ok (.iconst 1, 1) := by decide +kernel
theorem dL_law_365 : decode cL_law 365 = .ok (.goto 4, 3) := by decide +kernel
theorem dL_law_368 : decode cL_law 368 = .ok (.iconst 0, 1) := by decide +kernel
theorem dL_law_369 : decode cL_law 369 = .ok (.istore 22, 2) := by decide +kernel
theorem dL_law_371 : decode cL_law 371 = .ok (.aload_n 1, 1) := by decide +kernel
theorem dL_law_372 : decode cL_law 372 = .ok (.iload 20, 2) := by decide +kernel
theorem dL_law_374 : decode cL_law 374 = .ok (.iconst 0, 1) := by decide +kernel
theorem dL_law_375 : decode cL_law 375 = .ok (.invokevirtual 115, 3) := by decide +kernel
theorem dL_law_378 : decode cL_law 378 = .ok (.aload 5, 2) := by decide +kernel
theorem dL_law_380 : decode cL_law 380 = .ok (.iload 20, 2) := by decide +kernel
theorem dL_law_382 : decode cL_law 382 = .ok (.iaload, 1) := by decide +kernel
theorem dL_law_383 : decode cL_law 383 = .ok (.if_icmp .ne 76, 3) := by decide +kernel
theorem dL_law_386 : decode cL_law 386 = .ok (.aload_n 1, 1) := by decide +kernel
theorem dL_law_387 : decode cL_law 387 = .ok (.iload 20, 2) := by decide +kernel
theorem dL_law_389 : decode cL_law 389 = .ok (.iconst 4, 1) := by decide +kernel
theorem dL_law_390 : decode cL_law 390 = .ok (.invokevirtual 115, 3) := by decide +kernel
theorem dL_law_393 : decode cL_law 393 = .ok (.ifCond .ne 66, 3) := by decide +kernel
theorem dL_law_396 : decode cL_law 396 = .ok (.iload 22, 2) := by decide +kernel
theorem dL_law_398 : decode cL_law 398 = .ok (.ifCond .ne 23, 3) := by decide +kernel
theorem dL_law_401 : decode cL_law 401 = .ok (.iload 21, 2) := by decide +kernel
theorem dL_law_403 : decode cL_law 403 = .ok (.iload 20, 2) := by decide +kernel
theorem dL_law_405 : decode cL_law 405 = .ok (.iconst 2, 1) := by decide +kernel
theorem dL_law_406 : decode cL_law 406 = .ok (.irem, 1) := by decide +kernel
theorem dL_law_407 : decode cL_law 407 = .ok (.ifCond .ne 8, 3) := by decide +kernel
theorem dL_law_410 : decode cL_law 410 = .ok (.iload 17, 2) := by decide +kernel
theorem dL_law_412 : decode cL_law 412 = .ok (.goto 6, 3) := by decide +kernel
theorem dL_law_415 : decode cL_law 415 = .ok (.iload 17, 2) := by decide +kernel
theorem dL_law_417 : decode cL_law 417 = .ok (.ineg, 1) := by decide +kernel
theorem dL_law_418 : decode cL_law 418 = .ok (.if_icmp .ne 41, 3) := by decide +kernel
theorem dL_law_421 : decode cL_law 421 = .ok (.iload 21, 2) := by decide +kernel
theorem dL_law_423 : decode cL_law 423 = .ok (.invokestatic 131, 3) := by decide +kernel
theorem dL_law_426 : decode cL_law 426 = .ok (.iload 17, 2) := by decide +kernel
theorem dL_law_428 : decode cL_law 428 = .ok (.if_icmp .gt 31, 3) := by decide +kernel
theorem dL_law_431 : decode cL_law 431 = .ok (.aload_n 1, 1) := by decide +kernel
theorem dL_law_432 : decode cL_law 432 = .ok (.iload 20, 2) := by decide +kernel
theorem dL_law_434 : decode cL_law 434 = .ok (.iconst 2, 1) := by decide +kernel
theorem dL_law_435 : decode cL_law 435 = .ok (.invokevirtual 115, 3) := by decide +kernel
theorem dL_law_438 : decode cL_law 438 = .ok (.ifCond .ne 23, 3) := by decide +kernel
theorem dL_law_441 : decode cL_law 441 = .ok (.aload 5, 2) := by decide +kernel
theorem dL_law_443 : decode cL_law 443 = .ok (.iload 20, 2) := by decide +kernel
theorem dL_law_445 : decode cL_law 445 = .ok (.iaload, 1) := by decide +kernel
theorem dL_law_446 : decode cL_law 446 = .ok (.bipush 9, 2) := by decide +kernel
theorem dL_law_448 : decode cL_law 448 = .ok (.if_icmp .le 13, 3) := by decide +kernel
theorem dL_law_451 : decode cL_law 451 = .ok (.aload 7, 2) := by decide +kernel
theorem dL_law_453 : decode cL_law 453 = .ok (.iload 20, 2) := by decide +kernel
theorem dL_law_455 : decode cL_law 455 = .ok (.baload, 1) := by decide +kernel
theorem dL_law_456 : decode cL_law 456 = .ok (.ifCond .eq 5, 3) := by decide +kernel
theorem dL_law_459 : decode cL_law 459 = .ok (.iconst 0, 1) := by decide +kernel
theorem dL_law_460 : decode cL_law 460 = .ok (.ireturn, 1) := by decide +kernel
theorem dL_law_461 : decode cL_law 461 = .ok (.iinc 20 1, 3) := by decide +kernel
theorem dL_law_464 : decode cL_law 464 = .ok (.goto (-137), 3) := by decide +kernel
theorem dL_law_467 : decode cL_law 467 = .ok (.goto 119, 3) := by decide +kernel
theorem dL_law_470 : decode cL_law 470 = .ok (.aload_n 1, 1) := by decide +kernel
theorem dL_law_471 : decode cL_law 471 = .ok (.aload_n 2, 1) := by decide +kernel
theorem dL_law_472 : decode cL_law 472 = .ok (.iload 4, 2) := by decide +kernel
theorem dL_law_474 : decode cL_law 474 = .ok (.bipush 11, 2) := by decide +kernel
theorem dL_law_476 : decode cL_law 476 = .ok (.idiv, 1) := by decide +kernel
theorem dL_law_477 : decode cL_law 477 = .ok (.invokestatic 101, 3) := by decide +kernel
theorem dL_law_480 : decode cL_law 480 = .ok (.ifCond .ne 5, 3) := by decide +kernel
theorem dL_law_483 : decode cL_law 483 = .ok (.iconst 0, 1) := by decide +kernel
theorem dL_law_484 : decode cL_law 484 = .ok (.ireturn, 1) := by decide +kernel
theorem dL_law_485 : decode cL_law 485 = .ok (.iconst 0, 1) := by decide +kernel
theorem dL_law_486 : decode cL_law 486 = .ok (.istore 17, 2) := by decide +kernel
theorem dL_law_488 : decode cL_law 488 = .ok (.iconst 0, 1) := by decide +kernel
theorem dL_law_489 : decode cL_law 489 = .ok (.istore 18, 2) := by decide +kernel
theorem dL_law_491 : decode cL_law 491 = .ok (.iload 18, 2) := by decide +kernel
theorem dL_law_493 : decode cL_law 493 = .ok (.aload_n 1, 1) := by decide +kernel
theorem dL_law_494 : decode cL_law 494 = .ok (.iconst 4, 1) := by decide +kernel
theorem dL_law_495 : decode cL_law 495 = .ok (.invokevirtual 118, 3) := by decide +kernel
theorem dL_law_498 : decode cL_law 498 = .ok (.if_icmp .ge 21, 3) := by decide +kernel
theorem dL_law_501 : decode cL_law 501 = .ok (.iload 17, 2) := by decide +kernel
theorem dL_law_503 : decode cL_law 503 = .ok (.aload_n 1, 1) := by decide +kernel
theorem dL_law_504 : decode cL_law 504 = .ok (.iload 18, 2) := by decide +kernel
theorem dL_law_506 : decode cL_law 506 = .ok (.iconst 3, 1) := by decide +kernel
theorem dL_law_507 : decode cL_law 507 = .ok (.invokevirtual 121, 3) := by decide +kernel
theorem dL_law_510 : decode cL_law 510 = .ok (.iadd, 1) := by decide +kernel
theorem dL_law_511 : decode cL_law 511 = .ok (.istore 17, 2) := by decide +kernel
theorem dL_law_513 : decode cL_law 513 = .ok (.iinc 18 1, 3) := by decide +kernel
theorem dL_law_516 : decode cL_law 516 = .ok (.goto (-25), 3) := by decide +kernel
theorem dL_law_519 : decode cL_law 519 = .ok (.iload 8, 2) := by decide +kernel
theorem dL_law_521 : decode cL_law 521 = .ok (.iload 17, 2) := by decide +kernel
theorem dL_law_523 : decode cL_law 523 = .ok (.iadd, 1) := by decide +kernel
theorem dL_law_524 : decode cL_law 524 = .ok (.iload 14, 2) := by decide +kernel
theorem dL_law_526 : decode cL_law 526 = .ok (.isub, 1) := by decide +kernel
theorem dL_law_527 : decode cL_law 527 = .ok (.aload_n 1, 1) := by decide +kernel
theorem dL_law_528 : decode cL_law 528 = .ok (.bipush 8, 2) := by decide +kernel
theorem dL_law_530 : decode cL_law 530 = .ok (.invokevirtual 118, 3) := by decide +kernel
theorem dL_law_533 : decode cL_law 533 = .ok (.iload 9, 2) := by decide +kernel
theorem dL_law_535 : decode cL_law 535 = .ok (.isub, 1) := by decide +kernel
theorem dL_law_536 : decode cL_law 536 = .ok (.isub, 1) := by decide +kernel
theorem dL_law_537 : decode cL_law 537 = .ok (.aload_n 1, 1) := by decide +kernel
theorem dL_law_538 : decode cL_law 538 = .ok (.iconst 2, 1) := by decide +kernel
theorem dL_law_539 : decode cL_law 539 = .ok (.invokevirtual 118, 3) := by decide +kernel
theorem dL_law_542 : decode cL_law 542 = .ok (.isub, 1) := by decide +kernel
theorem dL_law_543 : decode cL_law 543 = .ok (.istore 18, 2) := by decide +kernel
theorem dL_law_545 : decode cL_law 545 = .ok (.iload 18, 2) := by decide +kernel
theorem dL_law_547 : decode cL_law 547 = .ok (.ifCond .eq 9, 3) := by decide +kernel
theorem dL_law_550 : decode cL_law 550 = .ok (.iload 18, 2) := by decide +kernel
theorem dL_law_552 : decode cL_law 552 = .ok (.iconst 4, 1) := by decide +kernel
theorem dL_law_553 : decode cL_law 553 = .ok (.if_icmp .ne 31, 3) := by decide +kernel
theorem dL_law_556 : decode cL_law 556 = .ok (.aload_n 1, 1) := by decide +kernel
theorem dL_law_557 : decode cL_law 557 = .ok (.iconst 0, 1) := by decide +kernel
theorem dL_law_558 : decode cL_law 558 = .ok (.invokevirtual 118, 3) := by decide +kernel
theorem dL_law_561 : decode cL_law 561 = .ok (.iload 10, 2) := by decide +kernel
theorem dL_law_563 : decode cL_law 563 = .ok (.if_icmp .ne 21, 3) := by decide +kernel
theorem dL_law_566 : decode cL_law 566 = .ok (.aload_n 1, 1) := by decide +kernel
theorem dL_law_567 : decode cL_law 567 = .ok (.iconst 5, 1) := by decide +kernel
theorem dL_law_568 : decode cL_law 568 = .ok (.invokevirtual 118, 3) := by decide +kernel
theorem dL_law_571 : decode cL_law 571 = .ok (.iload 11, 2) := by decide +kernel
theorem dL_law_573 : decode cL_law 573 = .ok (.if_icmp .gt 11, 3) := by decide +kernel
theorem dL_law_576 : decode cL_law 576 = .ok (.aload_n 1, 1) := by decide +kernel
theorem dL_law_577 : decode cL_law 577 = .ok (.iconst 2, 1) := by decide +kernel
theorem dL_law_578 : decode cL_law 578 = .ok (.invokevirtual 118, 3) := by decide +kernel
theorem dL_law_581 : decode cL_law 581 = .ok (.ifCond .ge 5, 3) := by decide +kernel
theorem dL_law_584 : decode cL_law 584 = .ok (.iconst 0, 1) := by decide +kernel
theorem dL_law_585 : decode cL_law 585 = .ok (.ireturn, 1) := by decide +kernel
theorem dL_law_586 : decode cL_law 586 = .ok (.aload_n 1, 1) := by decide +kernel
theorem dL_law_587 : decode cL_law 587 = .ok (.iconst 3, 1) := by decide +kernel
theorem dL_law_588 : decode cL_law 588 = .ok (.invokevirtual 118, 3) := by decide +kernel
theorem dL_law_591 : decode cL_law 591 = .ok (.istore 12, 2) := by decide +kernel
theorem dL_law_593 : decode cL_law 593 = .ok (.aload_n 1, 1) := by decide +kernel
theorem dL_law_594 : decode cL_law 594 = .ok (.iconst 4, 1) := by decide +kernel
theorem dL_law_595 : decode cL_law 595 = .ok (.invokevirtual 118, 3) := by decide +kernel
theorem dL_law_598 : decode cL_law 598 = .ok (.istore 13, 2) := by decide +kernel
theorem dL_law_600 : decode cL_law 600 = .ok (.iconst 0, 1) := by decide +kernel
theorem dL_law_601 : decode cL_law 601 = .ok (.istore 17, 2) := by decide +kernel
theorem dL_law_603 : decode cL_law 603 = .ok (.iload 17, 2) := by decide +kernel
theorem dL_law_605 : decode cL_law 605 = .ok (.bipush 12, 2) := by decide +kernel
theorem dL_law_607 : decode cL_law 607 = .ok (.if_icmp .ge 103, 3) := by decide +kernel
theorem dL_law_610 : decode cL_law 610 = .ok (.aload_n 1, 1) := by decide +kernel
theorem dL_law_611 : decode cL_law 611 = .ok (.iload 17, 2) := by decide +kernel
theorem dL_law_613 : decode cL_law 613 = .ok (.iconst 2, 1) := by decide +kernel
theorem dL_law_614 : decode cL_law 614 = .ok (.invokevirtual 115, 3) := by decide +kernel
theorem dL_law_617 : decode cL_law 617 = .ok (.iconst 1, 1) := by decide +kernel
theorem dL_law_618 : decode cL_law 618 = .ok (.if_icmp .ne 8, 3) := by decide +kernel
theorem dL_law_621 : decode cL_law 621 = .ok (.bipush 60, 2) := by decide +kernel
theorem dL_law_623 : decode cL_law 623 = .ok (.goto 28, 3) := by decide +kernel
theorem dL_law_626 : decode cL_law 626 = .ok (.bipush 60, 2) := by decide +kernel
theorem dL_law_628 : decode cL_law 628 = .ok (.aload_n 1, 1) := by decide +kernel
theorem dL_law_629 : decode cL_law 629 = .ok (.iload 17, 2) := by decide +kernel
theorem dL_law_631 : decode cL_law 631 = .ok (.iconst 1, 1) := by decide +kernel
theorem dL_law_632 : decode cL_law 632 = .ok (.invokevirtual 115, 3) := by decide +kernel
theorem dL_law_635 : decode cL_law 635 = .ok (.invokestatic 131, 3) := by decide +kernel
theorem dL_law_638 : decode cL_law 638 = .ok (.iconst 2, 1) := by decide +kernel
theorem dL_law_639 : decode cL_law 639 = .ok (.aload_n 1, 1) := by decide +kernel
theorem dL_law_640 : decode cL_law 640 = .ok (.iload 17, 2) := by decide +kernel
theorem dL_law_642 : decode cL_law 642 = .ok (.iconst 0, 1) := by decide +kernel
theorem dL_law_643 : decode cL_law 643 = .ok (.invokevirtual 115, 3) := by decide +kernel
theorem dL_law_646 : decode cL_law 646 = .ok (.imul, 1) := by decide +kernel
theorem dL_law_647 : decode cL_law 647 = .ok (.iadd, 1) := by decide +kernel
theorem dL_law_648 : decode cL_law 648 = .ok (.invokestatic 59, 3) := by decide +kernel
theorem dL_law_651 : decode cL_law 651 = .ok (.istore 18, 2) := by decide +kernel
theorem dL_law_653 : decode cL_law 653 = .ok (.aload_n 1, 1) := by decide +kernel
theorem dL_law_654 : decode cL_law 654 = .ok (.iload 17, 2) := by decide +kernel
theorem dL_law_656 : decode cL_law 656 = .ok (.iconst 0, 1) := by decide +kernel
theorem dL_law_657 : decode cL_law 657 = .ok (.invokevirtual 115, 3) := by decide +kernel
theorem dL_law_660 : decode cL_law 660 = .ok (.ifCond .lt 42, 3) := by decide +kernel
theorem dL_law_663 : decode cL_law 663 = .ok (.aload_n 1, 1) := by decide +kernel
theorem dL_law_664 : decode cL_law 664 = .ok (.iload 17, 2) := by decide +kernel
theorem dL_law_666 : decode cL_law 666 = .ok (.iconst 0, 1) := by decide +kernel
theorem dL_law_667 : decode cL_law 667 = .ok (.invokevirtual 115, 3) := by decide +kernel
theorem dL_law_670 : decode cL_law 670 = .ok (.bipush 30, 2) := by decide +kernel
theorem dL_law_672 : decode cL_law 672 = .ok (.if_icmp .gt 30, 3) := by decide +kernel
theorem dL_law_675 : decode cL_law 675 = .ok (.aload_n 1, 1) := by decide +kernel
theorem dL_law_676 : decode cL_law 676 = .ok (.iload 17, 2) := by decide +kernel
theorem dL_law_678 : decode cL_law 678 = .ok (.iconst 1, 1) := by decide +kernel
theorem dL_law_679 : decode cL_law 679 = .ok (.invokevirtual 115, 3) := by decide +kernel
theorem dL_law_682 : decode cL_law 682 = .ok (.invokestatic 131, 3) := by decide +kernel
theorem dL_law_685 : decode cL_law 685 = .ok (.bipush 60, 2) := by decide +kernel
theorem dL_law_687 : decode cL_law 687 = .ok (.if_icmp .gt 15, 3) := by decide +kernel
theorem dL_law_690 : decode cL_law 690 = .ok (.aload_n 1, 1) := by decide +kernel
theorem dL_law_691 : decode cL_law 691 = .ok (.iload 17, 2) := by decide +kernel
theorem dL_law_693 : decode cL_law 693 = .ok (.iconst 3, 1) := by decide +kernel
theorem dL_law_694 : decode cL_law 694 = .ok (.invokevirtual 115, 3) := by decide +kernel
theorem dL_law_697 : decode cL_law 697 = .ok (.iload 18, 2) := by decide +kernel
theorem dL_law_699 : decode cL_law 699 = .ok (.if_icmp .eq 5, 3) := by decide +kernel
theorem dL_law_702 : decode cL_law 702 = .ok (.iconst 0, 1) := by decide +kernel
theorem dL_law_703 : decode cL_law 703 = .ok (.ireturn, 1) := by decide +kernel
theorem dL_law_704 : decode cL_law 704 = .ok (.iinc 17 1, 3) := by decide +kernel
theorem dL_law_707 : decode cL_law 707 = .ok (.goto (-104), 3) := by decide +kernel
theorem dL_law_710 : decode cL_law 710 = .ok (.iconst 0, 1) := by decide +kernel
theorem dL_law_711 : decode cL_law 711 = .ok (.istore 17, 2) := by decide +kernel
theorem dL_law_713 : decode cL_law 713 = .ok (.iload 17, 2) := by decide +kernel
theorem dL_law_715 : decode cL_law 715 = .ok (.iload 12, 2) := by decide +kernel
theorem dL_law_717 : decode cL_law 717 = .ok (.if_icmp .ge 258, 3) := by decide +kernel
theorem dL_law_720 : decode cL_law 720 = .ok (.aload_n 2, 1) := by decide +kernel
theorem dL_law_721 : decode cL_law 721 = .ok (.getfield 9, 3) := by decide +kernel
theorem dL_law_724 : decode cL_law 724 = .ok (.iload 17, 2) := by decide +kernel
theorem dL_law_726 : decode cL_law 726 = .ok (.aaload, 1) := by decide +kernel
theorem dL_law_727 : decode cL_law 727 = .ok (.arraylength, 1) := by decide +kernel
theorem dL_law_728 : decode cL_law 728 = .ok (.istore 18, 2) := by decide +kernel
theorem dL_law_730 : decode cL_law 730 = .ok (.iconst 0, 1) := by decide +kernel
theorem dL_law_731 : decode cL_law 731 = .ok (.istore 19, 2) := by decide +kernel
theorem dL_law_733 : decode cL_law 733 = .ok (.iconst 0, 1) := by decide +kernel
theorem dL_law_734 : decode cL_law 734 = .ok (.istore 20, 2) := by decide +kernel
theorem dL_law_736 : decode cL_law 736 = .ok (.iload 20, 2) := by decide +kernel
theorem dL_law_738 : decode cL_law 738 = .ok (.iload 18, 2) := by decide +kernel
theorem dL_law_740 : decode cL_law 740 = .ok (.if_icmp .ge 27, 3) := by decide +kernel
theorem dL_law_743 : decode cL_law 743 = .ok (.iload 19, 2) := by decide +kernel
theorem dL_law_745 : decode cL_law 745 = .ok (.aload_n 1, 1) := by decide +kernel
theorem dL_law_746 : decode cL_law 746 = .ok (.aload_n 1, 1) := by decide +kernel
theorem dL_law_747 : decode cL_law 747 = .ok (.iload 17, 2) := by decide +kernel
theorem dL_law_749 : decode cL_law 749 = .ok (.iload 20, 2) := by decide +kernel
theorem dL_law_751 : decode cL_law 751 = .ok (.invokevirtual 134, 3) := by decide +kernel
theorem dL_law_754 : decode cL_law 754 = .ok (.iconst 3, 1) := by decide +kernel
theorem dL_law_755 : decode cL_law 755 = .ok (.invokevirtual 115, 3) := by decide +kernel
theorem dL_law_758 : decode cL_law 758 = .ok (.iadd, 1) := by decide +kernel
theorem dL_law_759 : decode cL_law 759 = .ok (.istore 19, 2) := by decide +kernel
theorem dL_law_761 : decode cL_law 761 = .ok (.iinc 20 1, 3) := by decide +kernel
theorem dL_law_764 : decode cL_law 764 = .ok (.goto (-28), 3) := by decide +kernel
theorem dL_law_767 : decode cL_law 767 = .ok (.aload_n 1, 1) := by decide +kernel
theorem dL_law_768 : decode cL_law 768 = .ok (.iload 17, 2) := by decide +kernel
theorem dL_law_770 : decode cL_law 770 = .ok (.invokevirtual 137, 3) := by decide +kernel
theorem dL_law_773 : decode cL_law 773 = .ok (.istore 20, 2) := by decide +kernel
theorem dL_law_775 : decode cL_law 775 = .ok (.aload_n 1, 1) := by decide +kernel
theorem dL_law_776 : decode cL_law 776 = .ok (.iload 17, 2) := by decide +kernel
theorem dL_law_778 : decode cL_law 778 = .ok (.invokevirtual 140, 3) := by decide +kernel
theorem dL_law_781 : decode cL_law 781 = .ok (.istore 21, 2) := by decide +kernel
theorem dL_law_783 : decode cL_law 783 = .ok (.iload 20, 2) := by decide +kernel
theorem dL_law_785 : decode cL_law 785 = .ok (.iload 18, 2) := by decide +kernel
theorem dL_law_787 : decode cL_law 787 = .ok (.ifCond .ne 7, 3) := by decide +kernel
theorem dL_law_790 : decode cL_law 790 = .ok (.iconst 0, 1) := by decide +kernel
theorem dL_law_791 : decode cL_law 791 = .ok (.goto 11, 3) := by decide +kernel
theorem dL_law_794 : decode cL_law 794 = .ok (.bipush 60, 2) := by decide +kernel
theorem dL_law_796 : decode cL_law 796 = .ok (.iload 19, 2) := by decide +kernel
theorem dL_law_798 : decode cL_law 798 = .ok (.iload 18, 2) := by decide +kernel
theorem dL_law_800 : decode cL_law 800 = .ok (.idiv, 1) := by decide +kernel
theorem dL_law_801 : decode cL_law 801 = .ok (.isub, 1) := by decide +kernel
theorem dL_law_802 : decode cL_law 802 = .ok (.if_icmp .ne 71, 3) := by decide +kernel
theorem dL_law_805 : decode cL_law 805 = .ok (.iload 21, 2) := by decide +kernel
theorem dL_law_807 : decode cL_law 807 = .ok (.ifCond .lt 26, 3) := by decide +kernel
theorem dL_law_810 : decode cL_law 810 = .ok (.aload_n 1, 1) := by decide +kernel
theorem dL_law_811 : decode cL_law 811 = .ok (.iload 21, 2) := by decide +kernel
theorem dL_law_813 : decode cL_law 813 = .ok (.iconst 3, 1) := by decide +kernel
theorem dL_law_814 : decode cL_law 814 = .ok (.invokevirtual 115, 3) := by decide +kernel
theorem dL_law_817 : decode cL_law 817 = .ok (.ifCond .eq 56, 3) := by decide +kernel
theorem dL_law_820 : decode cL_law 820 = .ok (.iload 18, 2) := by decide +kernel
theorem dL_law_822 : decode cL_law 822 = .ok (.ifCond .eq 51, 3) := by decide +kernel
theorem dL_law_825 : decode cL_law 825 = .ok (.iload 19, 2) := by decide +kernel
theorem dL_law_827 : decode cL_law 827 = .ok (.iload 18, 2) := by decide +kernel
theorem dL_law_829 : decode cL_law 829 = .ok (.idiv, 1) := by decide +kernel
theorem dL_law_830 : decode cL_law 830 = .ok (.ifCond .eq 43, 3) := by decide +kernel
theorem dL_law_833 : decode cL_law 833 = .ok (.aload_n 1, 1) := by decide +kernel
theorem dL_law_834 : decode cL_law 834 = .ok (.iload 17, 2) := by decide +kernel
theorem dL_law_836 : decode cL_law 836 = .ok (.invokevirtual 143, 3) := by decide +kernel
theorem dL_law_839 : decode cL_law 839 = .ok (.bipush 99, 2) := by decide +kernel
theorem dL_law_841 : decode cL_law 841 = .ok (.if_icmp .gt 32, 3) := by decide +kernel
theorem dL_law_844 : decode cL_law 844 = .ok (.aload_n 1, 1) := by decide +kernel
theorem dL_law_845 : decode cL_law 845 = .ok (.iload 17, 2) := by decide +kernel
theorem dL_law_847 : decode cL_law 847 = .ok (.invokevirtual 143, 3) := by decide +kernel
theorem dL_law_850 : decode cL_law 850 = .ok (.ifCond .le 7, 3) := by decide +kernel
theorem dL_law_853 : decode cL_law 853 = .ok (.iconst 1, 1) := by decide +kernel
theorem dL_law_854 : decode cL_law 854 = .ok (.goto 4, 3) := by decide +kernel
theorem dL_law_857 : decode cL_law 857 = .ok (.iconst 0, 1) := by decide +kernel
theorem dL_law_858 : decode cL_law 858 = .ok (.iload 20, 2) := by decide +kernel
theorem dL_law_860 : decode cL_law 860 = .ok (.bipush 30, 2) := by decide +kernel
theorem dL_law_862 : decode cL_law 862 = .ok (.if_icmp .lt 7, 3) := by decide +kernel
theorem dL_law_865 : decode cL_law 865 = .ok (.iconst 1, 1) := by decide +kernel
theorem dL_law_866 : decode cL_law 866 = .ok (.goto 4, 3) := by decide +kernel
theorem dL_law_869 : decode cL_law 869 = .ok (.iconst 0, 1) := by decide +kernel
theorem dL_law_870 : decode cL_law 870 = .ok (.if_icmp .eq 5, 3) := by decide +kernel
theorem dL_law_873 : decode cL_law 873 = .ok (.iconst 0, 1) := by decide +kernel
theorem dL_law_874 : decode cL_law 874 = .ok (.ireturn, 1) := by decide +kernel
theorem dL_law_875 : decode cL_law 875 = .ok (.iconst 0, 1) := by decide +kernel
theorem dL_law_876 : decode cL_law 876 = .ok (.istore 22, 2) := by decide +kernel
theorem dL_law_878 : decode cL_law 878 = .ok (.iload 22, 2) := by decide +kernel
theorem dL_law_880 : decode cL_law 880 = .ok (.iload 13, 2) := by decide +kernel
theorem dL_law_882 : decode cL_law 882 = .ok (.if_icmp .ge 87, 3) := by decide +kernel
theorem dL_law_885 : decode cL_law 885 = .ok (.aload_n 1, 1) := by decide +kernel
theorem dL_law_886 : decode cL_law 886 = .ok (.iload 22, 2) := by decide +kernel
theorem dL_law_888 : decode cL_law 888 = .ok (.iload 17, 2) := by decide +kernel
theorem dL_law_890 : decode cL_law 890 = .ok (.invokevirtual 146, 3) := by decide +kernel
theorem dL_law_893 : decode cL_law 893 = .ok (.aload_n 1, 1) := by decide +kernel
theorem dL_law_894 : decode cL_law 894 = .ok (.iload 22, 2) := by decide +kernel
theorem dL_law_896 : decode cL_law 896 = .ok (.iconst 0, 1) := by decide +kernel
theorem dL_law_897 : decode cL_law 897 = .ok (.invokevirtual 121, 3) := by decide +kernel
theorem dL_law_900 : decode cL_law 900 = .ok (.iload 20, 2) := by decide +kernel
theorem dL_law_902 : decode cL_law 902 = .ok (.imul, 1) := by decide +kernel
theorem dL_law_903 : decode cL_law 903 = .ok (.bipush 60, 2) := by decide +kernel
theorem dL_law_905 : decode cL_law 905 = .ok (.idiv, 1) := by decide +kernel
theorem dL_law_906 : decode cL_law 906 = .ok (.if_icmp .gt 55, 3) := by decide +kernel
theorem dL_law_909 : decode cL_law 909 = .ok (.aload_n 1, 1) := by decide +kernel
theorem dL_law_910 : decode cL_law 910 = .ok (.iload 22, 2) := by decide +kernel
theorem dL_law_912 : decode cL_law 912 = .ok (.invokevirtual 149, 3) := by decide +kernel
theorem dL_law_915 : decode cL_law 915 = .ok (.ifCond .lt 26, 3) := by decide +kernel
theorem dL_law_918 : decode cL_law 918 = .ok (.aload_n 1, 1) := by decide +kernel
theorem dL_law_919 : decode cL_law 919 = .ok (.iload 22, 2) := by decide +kernel
theorem dL_law_921 : decode cL_law 921 = .ok (.aload_n 1, 1) := by decide +kernel
theorem dL_law_922 : decode cL_law 922 = .ok (.iload 22, 2) := by decide +kernel
theorem dL_law_924 : decode cL_law 924 = .ok (.invokevirtual 149, 3) := by decide +kernel
theorem dL_law_927 : decode cL_law 927 = .ok (.invokevirtual 146, 3) := by decide +kernel
theorem dL_law_930 : decode cL_law 930 = .ok (.aload_n 1, 1) := by decide +kernel
theorem dL_law_931 : decode cL_law 931 = .ok (.iload 22, 2) := by decide +kernel
theorem dL_law_933 : decode cL_law 933 = .ok (.iload 17, 2) := by decide +kernel
theorem dL_law_935 : decode cL_law 935 = .ok (.invokevirtual 146, 3) := by decide +kernel
theorem dL_law_938 : decode cL_law 938 = .ok (.if_icmp .lt 23, 3) := by decide +kernel
theorem dL_law_941 : decode cL_law 941 = .ok (.aload_n 1, 1) := by decide +kernel
theorem dL_law_942 : decode cL_law 942 = .ok (.iload 22, 2) := by decide +kernel
theorem dL_law_944 : decode cL_law 944 = .ok (.invokevirtual 149, 3) := by decide +kernel
theorem dL_law_947 : decode cL_law 947 = .ok (.ifCond .ge 16, 3) := by decide +kernel
theorem dL_law_950 : decode cL_law 950 = .ok (.aload_n 1, 1) := by decide +kernel
theorem dL_law_951 : decode cL_law 951 = .ok (.iload 22, 2) := by decide +kernel
theorem dL_law_953 : decode cL_law 953 = .ok (.iload 17, 2) := by decide +kernel
theorem dL_law_955 : decode cL_law 955 = .ok (.invokevirtual 146, 3) := by decide +kernel
theorem dL_law_958 : decode cL_law 958 = .ok (.ifCond .le 5, 3) := by decide +kernel
theorem dL_law_961 : decode cL_law 961 = .ok (.iconst 0, 1) := by decide +kernel
theorem dL_law_962 : decode cL_law 962 = .ok (.ireturn, 1) := by decide +kernel
theorem dL_law_963 : decode cL_law 963 = .ok (.iinc 22 1, 3) := by decide +kernel
theorem dL_law_966 : decode cL_law 966 = .ok (.goto (-88), 3) := by decide +kernel
theorem dL_law_969 : decode cL_law 969 = .ok (.iinc 17 1, 3) := by decide +kernel
theorem dL_law_972 : decode cL_law 972 = .ok (.goto (-259), 3) := by decide +kernel
theorem dL_law_975 : decode cL_law 975 = .ok (.iload 13, 2) := by decide +kernel
theorem dL_law_977 : decode cL_law 977 = .ok (.ifCond .eq 129, 3) := by decide +kernel
theorem dL_law_980 : decode cL_law 980 = .ok (.iload 12, 2) := by decide +kernel
theorem dL_law_982 : decode cL_law 982 = .ok (.ifCond .ne 6, 3) := by decide +kernel
theorem dL_law_985 : decode cL_law 985 = .ok (.goto 121, 3) := by decide +kernel
theorem dL_law_988 : decode cL_law 988 = .ok (.iload 4, 2) := by decide +kernel
theorem dL_law_990 : decode cL_law 990 = .ok (.iconst 3, 1) := by decide +kernel
theorem dL_law_991 : decode cL_law 991 = .ok (.ishr, 1) := by decide +kernel
theorem dL_law_992 : decode cL_law 992 = .ok (.iload 12, 2) := by decide +kernel
theorem dL_law_994 : decode cL_law 994 = .ok (.invokestatic 15, 3) := by decide +kernel
theorem dL_law_997 : decode cL_law 997 = .ok (.istore 17, 2) := by decide +kernel
theorem dL_law_999 : decode cL_law 999 = .ok (.iload 4, 2) := by decide +kernel
theorem dL_law_1001 : decode cL_law 1001 = .ok (.iconst 5, 1) := by decide +kernel
theorem dL_law_1002 : decode cL_law 1002 = .ok (.ishr, 1) := by decide +kernel
theorem dL_law_1003 : decode cL_law 1003 = .ok (.iload 13, 2) := by decide +kernel
theorem dL_law_1005 : decode cL_law 1005 = .ok (.invokestatic 15, 3) := by decide +kernel
theorem dL_law_1008 : decode cL_law 1008 = .ok (.istore 18, 2) := by decide +kernel
theorem dL_law_1010 : decode cL_law 1010 = .ok (.aload_n 2, 1) := by decide +kernel
theorem dL_law_1011 : decode cL_law 1011 = .ok (.getfield 9, 3) := by decide +kernel
theorem dL_law_1014 : decode cL_law 1014 = .ok (.iload 17, 2) := by decide +kernel
theorem dL_law_1016 : decode cL_law 1016 = .ok (.aaload, 1) := by decide +kernel
theorem dL_law_1017 : decode cL_law 1017 = .ok (.arraylength, 1) := by decide +kernel
theorem dL_law_1018 : decode cL_law 1018 = .ok (.ifCond .eq 88, 3) := by decide +kernel
theorem dL_law_1021 : decode cL_law 1021 = .ok (.aload_n 1, 1) := by decide +kernel
theorem dL_law_1022 : decode cL_law 1022 = .ok (.iload 18, 2) := by decide +kernel
theorem dL_law_1024 : decode cL_law 1024 = .ok (.iconst 2, 1) := by decide +kernel
theorem dL_law_1025 : decode cL_law 1025 = .ok (.invokevirtual 121, 3) := by decide +kernel
theorem dL_law_1028 : decode cL_law 1028 = .ok (.ifCond .ne 6, 3) := by decide +kernel
theorem dL_law_1031 : decode cL_law 1031 = .ok (.goto 75, 3) := by decide +kernel
theorem dL_law_1034 : decode cL_law 1034 = .ok (.aload_n 1, 1) := by decide +kernel
theorem dL_law_1035 : decode cL_law 1035 = .ok (.iload 17, 2) := by decide +kernel
theorem dL_law_1037 : decode cL_law 1037 = .ok (.invokevirtual 137, 3) := by decide +kernel
theorem dL_law_1040 : decode cL_law 1040 = .ok (.istore 19, 2) := by decide +kernel
theorem dL_law_1042 : decode cL_law 1042 = .ok (.aload_n 1, 1) := by decide +kernel
theorem dL_law_1043 : decode cL_law 1043 = .ok (.iload 18, 2) := by decide +kernel
theorem dL_law_1045 : decode cL_law 1045 = .ok (.iload 17, 2) := by decide +kernel
theorem dL_law_1047 : decode cL_law 1047 = .ok (.invokevirtual 146, 3) := by decide +kernel
theorem dL_law_1050 : decode cL_law 1050 = .ok (.istore 20, 2) := by decide +kernel
theorem dL_law_1052 : decode cL_law 1052 = .ok (.aload_n 1, 1) := by decide +kernel
theorem dL_law_1053 : decode cL_law 1053 = .ok (.iload 18, 2) := by decide +kernel
theorem dL_law_1055 : decode cL_law 1055 = .ok (.iload 17, 2) := by decide +kernel
theorem dL_law_1057 : decode cL_law 1057 = .ok (.invokevirtual 91, 3) := by decide +kernel
theorem dL_law_1060 : decode cL_law 1060 = .ok (.iload 20, 2) := by decide +kernel
theorem dL_law_1062 : decode cL_law 1062 = .ok (.if_icmp .ne 42, 3) := by decide +kernel
theorem dL_law_1065 : decode cL_law 1065 = .ok (.aload_n 2, 1) := by decide +kernel
theorem dL_law_1066 : decode cL_law 1066 = .ok (.iload 18, 2) := by decide +kernel
theorem dL_law_1068 : decode cL_law 1068 = .ok (.iload 17, 2) := by decide +kernel
theorem dL_law_1070 : decode cL_law 1070 = .ok (.invokevirtual 94, 3) := by decide +kernel
theorem dL_law_1073 : decode cL_law 1073 = .ok (.iload 20, 2) := by decide +kernel
theorem dL_law_1075 : decode cL_law 1075 = .ok (.if_icmp .ne 29, 3) := by decide +kernel
theorem dL_law_1078 : decode cL_law 1078 = .ok (.aload_n 1, 1) := by decide +kernel
theorem dL_law_1079 : decode cL_law 1079 = .ok (.iload 17, 2) := by decide +kernel
theorem dL_law_1081 : decode cL_law 1081 = .ok (.invokevirtual 137, 3) := by decide +kernel
theorem dL_law_1084 : decode cL_law 1084 = .ok (.iload 19, 2) := by decide +kernel
theorem dL_law_1086 : decode cL_law 1086 = .ok (.if_icmp .gt 18, 3) := by decide +kernel
theorem dL_law_1089 : decode cL_law 1089 = .ok (.aload_n 1, 1) := by decide +kernel
theorem dL_law_1090 : decode cL_law 1090 = .ok (.iload 18, 2) := by decide +kernel
theorem dL_law_1092 : decode cL_law 1092 = .ok (.iload 17, 2) := by decide +kernel
theorem dL_law_1094 : decode cL_law 1094 = .ok (.invokevirtual 146, 3) := by decide +kernel
theorem dL_law_1097 : decode cL_law 1097 = .ok (.iload 20, 2) := by decide +kernel
theorem dL_law_1099 : decode cL_law 1099 = .ok (.iconst 2, 1) := by decide +kernel
theorem dL_law_1100 : decode cL_law 1100 = .ok (.idiv, 1) := by decide +kernel
theorem dL_law_1101 : decode cL_law 1101 = .ok (.if_icmp .le 5, 3) := by decide +kernel
theorem dL_law_1104 : decode cL_law 1104 = .ok (.iconst 0, 1) := by decide +kernel
theorem dL_law_1105 : decode cL_law 1105 = .ok (.ireturn, 1) := by decide +kernel
theorem dL_law_1106 : decode cL_law 1106 = .ok (.iinc 3 1, 3) := by decide +kernel
theorem dL_law_1109 : decode cL_law 1109 = .ok (.goto (-1087), 3) := by decide +kernel
theorem dL_law_1112 : decode cL_law 1112 = .ok (.aload_n 2, 1) := by decide +kernel
theorem dL_law_1113 : decode cL_law 1113 = .ok (.aload_n 1, 1) := by decide +kernel
theorem dL_law_1114 : decode cL_law 1114 = .ok (.invokevirtual 152, 3) := by decide +kernel
theorem dL_law_1117 : decode cL_law 1117 = .ok (.ireturn, 1) := by decide +kernel
end
section
/-! A world by numbers: n cells at ad 0 .. ad (n-1); the cell k holds what cz says of its row ρ k -/
def gT (cy : Nat → ClassId) : List (ClassId × FieldType) := [(cy 0, .int), (cy 1, .boolean), (cy 2, .object "StreetOrgans$Tune"), (cy 3, .object "StreetOrgans$Street"), (cy 4, .array .int)]
def up1 (ρ : Nat → Nat → Int32) (k : Nat) (r : Nat → Int32) : Nat → Nat → Int32 := fun i => if i = k then r else ρ i
def up2 (ρ : Nat → Nat → Int32) (k j : Nat) (v : Int32) : Nat → Nat → Int32 := up1 ρ k (upd (ρ k) j v)
theorem up1_s {ρ : Nat → Nat → Int32} {k : Nat} {r : Nat → Int32} : up1 ρ k r k = r := by simp [up1]
theorem up1_n {ρ : Nat → Nat → Int32} {k i : Nat} {r : Nat → Int32} (h : i ≠ k) : up1 ρ k r i = ρ i := by simp [up1, h]
def gWl (n : Nat) (ad : Nat → Nat) (cz : Nat → (Nat → Int32) → va_E) (ρ : Nat → Nat → Int32) : va_W := (List.range n).map (fun k => (ad k, cz k (ρ k)))
theorem gWl_get {n : Nat} {ad : Nat → Nat} {cz : Nat → (Nat → Int32) → va_E} {ρ : Nat → Nat → Int32} {k : Nat} (h : k < n) : (gWl n ad cz ρ)[k]? = some (ad k, cz k (ρ k)) := by
  simp [gWl, List.getElem?_range h]
theorem gWl_out {n : Nat} {ad : Nat → Nat} {cz : Nat → (Nat → Int32) → va_E} {ρ : Nat → Nat → Int32} {k : Nat} {q : Nat × va_E} (h : (gWl n ad cz ρ)[k]? = some q) : k < n ∧ q = (ad k, cz k (ρ k)) := by
  by_cases hk : k < n
  · rw [gWl_get hk] at h
    exact ⟨hk, (Option.some.inj h).symm⟩
  · have : (gWl n ad cz ρ)[k]? = none := by simp [gWl]; omega
    rw [this] at h
    cases h
theorem gWl_set {n : Nat} {ad : Nat → Nat} {cz : Nat → (Nat → Int32) → va_E} {ρ : Nat → Nat → Int32} {k : Nat} {r : Nat → Int32} {e : va_E} (h : k < n) (he : e = cz k r) : (gWl n ad cz ρ).set k (ad k, e) = gWl n ad cz (up1 ρ k r) := by
  subst he
  apply List.ext_getElem?
  intro i
  by_cases hk : i = k
  · subst hk
    rw [gWl_get h, List.getElem?_set_self (by simp [gWl]; exact h), up1_s]
  · rw [List.getElem?_set_ne (fun q => hk q.symm)]
    by_cases hi : i < n
    · rw [gWl_get hi, gWl_get hi, up1_n hk]
    · rw [List.getElem?_eq_none (by simp [gWl]; omega), List.getElem?_eq_none (by simp [gWl]; omega)]
/-- the addresses are apart -/
def gInj (n : Nat) (ad : Nat → Nat) : Prop := ∀ i j : Nat, i < n → j < n → ad i = ad j → i = j
/-- the cells of a world, and those that come from sz on -/
def gA (n : Nat) (ad : Nat → Nat) (sz : Nat) : Nat → Prop := fun q => (∃ k : Nat, k < n ∧ q = ad k) ∨ sz ≤ q
theorem gD_of {n : Nat} {ad : Nat → Nat} {cz : Nat → (Nat → Int32) → va_E} {ρ : Nat → Nat → Int32} {A : Nat → Prop} (hi : gInj n ad) (hA : ∀ k, k < n → A (ad k)) : va_D A (gWl n ad cz ρ) := by
  refine ⟨fun i j p q h1 h2 h3 => ?_, fun k q h => ?_⟩
  · obtain ⟨a1, rfl⟩ := gWl_out h1
    obtain ⟨a2, rfl⟩ := gWl_out h2
    exact hi i j a1 a2 h3
  · obtain ⟨a1, rfl⟩ := gWl_out h
    exact hA k a1
theorem gD_inj {n : Nat} {ad : Nat → Nat} {cz : Nat → (Nat → Int32) → va_E} {ρ : Nat → Nat → Int32} {A : Nat → Prop} (h : va_D A (gWl n ad cz ρ)) : gInj n ad := fun i j h1 h2 h3 => h.1 i j _ _ (gWl_get h1) (gWl_get h2) h3
theorem gD_in {n : Nat} {ad : Nat → Nat} {cz : Nat → (Nat → Int32) → va_E} {ρ : Nat → Nat → Int32} {A : Nat → Prop} (h : va_D A (gWl n ad cz ρ)) {k : Nat} (hk : k < n) : A (ad k) := h.2 k _ (gWl_get hk)
/-- another world's cells among these, from off on -/
def gSub (n : Nat) (ad : Nat → Nat) (cz : Nat → (Nat → Int32) → va_E) (off n' : Nat) (ad' : Nat → Nat) (cz' : Nat → (Nat → Int32) → va_E) : Prop := off + n' ≤ n ∧ ∀ j, j < n' → ad' j = ad (off + j) ∧ ∀ r, cz' j r = cz (off + j) r
theorem gSub_self {n : Nat} {ad : Nat → Nat} {cz : Nat → (Nat → Int32) → va_E} : gSub n ad cz 0 n ad cz := ⟨by omega, fun j _ => by rw [Nat.zero_add]; exact ⟨rfl, fun _ => rfl⟩⟩
def gBack (ρ : Nat → Nat → Int32) (off n' : Nat) (ρ1 : Nat → Nat → Int32) : Nat → Nat → Int32 := fun k => if off ≤ k ∧ k < off + n' then ρ1 (k - off) else ρ k
theorem gP_sub {D : va_G} {cl : List vw_C} {H : Heap} {n off n' : Nat} {ad ad' : Nat → Nat} {cz cz' : Nat → (Nat → Int32) → va_E} {ρ : Nat → Nat → Int32} (hs : gSub n ad cz off n' ad' cz') (hP : va_P D cl (gWl n ad cz ρ) H) : va_P D cl (gWl n' ad' cz' (fun j => ρ (off + j))) H := by
  intro k q hq
  obtain ⟨hk, rfl⟩ := gWl_out hq
  obtain ⟨e1, e2⟩ := hs.2 k hk
  rw [e1, e2]
  exact hP (off + k) _ (gWl_get (by have := hs.1; omega))
theorem gInj_sub {n off n' : Nat} {ad ad' : Nat → Nat} {cz cz' : Nat → (Nat → Int32) → va_E} (hs : gSub n ad cz off n' ad' cz') (h : gInj n ad) : gInj n' ad' := by
  intro i j hi hj hij
  rw [(hs.2 i hi).1, (hs.2 j hj).1] at hij
  have := h (off + i) (off + j) (by have := hs.1; omega) (by have := hs.1; omega) hij
  omega
/-- behind a call on some of the cells: those anew, the others as they were -/
theorem gP_back {D : va_G} {cl : List vw_C} {H H1 : Heap} {n off n' : Nat} {ad ad' : Nat → Nat} {cz cz' : Nat → (Nat → Int32) → va_E} {ρ ρ1 : Nat → Nat → Int32} (hs : gSub n ad cz off n' ad' cz') (hi : gInj n ad) (hP : va_P D cl (gWl n ad cz ρ) H) (hk : ∀ q : Nat, q < H.size → ¬ gA n' ad' H.size q → H1[q]? = H[q]?) (hP1 : va_P D cl (gWl n' ad' cz' ρ1) H1) : va_P D cl (gWl n ad cz (gBack ρ off n' ρ1)) H1 := by
  intro k q hq
  obtain ⟨hkn, rfl⟩ := gWl_out hq
  by_cases hc : off ≤ k ∧ k < off + n'
  · have e0 : off + (k - off) = k := by omega
    obtain ⟨e1, e2⟩ := hs.2 (k - off) (by omega)
    have h := hP1 (k - off) _ (gWl_get (by omega))
    rw [e0] at e1
    have e3 : ∀ r, cz' (k - off) r = cz k r := fun r => by rw [e2 r, e0]
    rw [e1, e3] at h
    have e4 : gBack ρ off n' ρ1 k = ρ1 (k - off) := by simp only [gBack]; rw [if_pos hc]
    rw [e4]
    exact h
  · have e4 : gBack ρ off n' ρ1 k = ρ k := by simp only [gBack]; rw [if_neg hc]
    rw [e4]
    have h := hP k _ (gWl_get hkn)
    refine h.kept (hk _ h.lt ?_)
    rintro (⟨j, hj, ej⟩ | h9)
    · have ej : ad k = ad' j := ej
      rw [(hs.2 j hj).1] at ej
      have := hi k (off + j) hkn (by have := hs.1; omega) ej
      omega
    · have := h.lt
      exact absurd this (Nat.not_lt.mpr h9)
theorem gP_congr {D : va_G} {cl : List vw_C} {H : Heap} {n : Nat} {ad : Nat → Nat} {cz : Nat → (Nat → Int32) → va_E} {ρ ρ1 : Nat → Nat → Int32} (h : ∀ k, k < n → cz k (ρ k) = cz k (ρ1 k)) (hP : va_P D cl (gWl n ad cz ρ) H) : va_P D cl (gWl n ad cz ρ1) H := by
  have e : gWl n ad cz ρ1 = gWl n ad cz ρ := by
    apply List.ext_getElem?
    intro i
    by_cases hi : i < n
    · rw [gWl_get hi, gWl_get hi, h i hi]
    · rw [List.getElem?_eq_none (by simp [gWl]; omega), List.getElem?_eq_none (by simp [gWl]; omega)]
  rw [e]; exact hP
/-- what a layout says of a cell: an int field, a reference field, a row of ints, a row of references -/
def gFI (cz : Nat → (Nat → Int32) → va_E) (k ci j : Nat) : Prop := ∀ r : Nat → Int32, ∃ fs : List Value, cz k r = .inr (ci, fs) ∧ fs[j]? = some (.int (r j)) ∧ j < fs.length ∧ ∀ v : Int32, (.inr (ci, fs.set j (.int v)) : va_E) = cz k (upd r j v)
def gFR (cz : Nat → (Nat → Int32) → va_E) (ad : Nat → Nat) (k ci j k2 : Nat) : Prop := ∀ r : Nat → Int32, ∃ fs : List Value, cz k r = .inr (ci, fs) ∧ fs[j]? = some (.ref (ad k2))
def gOb (cz : Nat → (Nat → Int32) → va_E) (k ci : Nat) : Prop := ∀ r : Nat → Int32, ∃ fs : List Value, cz k r = .inr (ci, fs)
def gAI (cz : Nat → (Nat → Int32) → va_E) (cA : ClassId) (k len : Nat) : Prop := ∀ r : Nat → Int32, cz k r = .inl (cA, len, .inl r)
def gAR (cz : Nat → (Nat → Int32) → va_E) (ad : Nat → Nat) (cA : ClassId) (k len : Nat) (tgt : Nat → Nat) : Prop := ∀ r : Nat → Int32, ∃ f : Nat → Option Nat, cz k r = .inl (cA, len, .inr (.inr (.inr (.inr f)))) ∧ ∀ i, i < len → f i = some (ad (tgt i))
def gAL (cz : Nat → (Nat → Int32) → va_E) (cA : ClassId) (k len : Nat) : Prop := ∀ r : Nat → Int32, cz k r = .inl (cA, len, .inr (.inl (fun j => (r j).toInt64)))
def gLn (cz : Nat → (Nat → Int32) → va_E) (cA : ClassId) (k len : Nat) : Prop := ∀ r : Nat → Int32, ∃ y, cz k r = .inl (cA, len, y)
theorem gAI.ln {cz : Nat → (Nat → Int32) → va_E} {cA : ClassId} {k len : Nat} (h : gAI cz cA k len) : gLn cz cA k len := fun r => ⟨_, h r⟩
theorem gAR.ln {cz : Nat → (Nat → Int32) → va_E} {ad : Nat → Nat} {cA : ClassId} {k len : Nat} {tgt : Nat → Nat} (h : gAR cz ad cA k len tgt) : gLn cz cA k len := fun r => by obtain ⟨f, h1, _⟩ := h r; exact ⟨_, h1⟩
/-- the words that want a premise of their own -/
def gNsw : List Cond := [.methodLinkNest "StreetOrgans" 9 ⟨"StreetOrgans$Pipes","<init>","()V"⟩ "StreetOrgans", .methodLinkNest "StreetOrgans" 25 ⟨"StreetOrgans$Tune","<init>","()V"⟩ "StreetOrgans", .methodLinkNest "StreetOrgans" 32 ⟨"StreetOrgans$Street","<init>","()V"⟩ "StreetOrgans", .castable "java/lang/IllegalStateException" "java/lang/IllegalStateException", .castable "java/lang/IndexOutOfBoundsException" "java/lang/IndexOutOfBoundsException", .castable "java/lang/IllegalArgumentException" "java/lang/IllegalArgumentException", .methodLinkNest "StreetOrgansLaw" 95 ⟨"StreetOrgansLaw$Sim","<init>","()V"⟩ "StreetOrgansLaw", .declares ⟨"java/lang/RuntimeException","<init>","()V"⟩, .declares ⟨"java/lang/RuntimeException","<init>","(Ljava/lang/String;)V"⟩, .declares ⟨"java/lang/Exception","<init>","()V"⟩, .declares ⟨"java/lang/Exception","<init>","(Ljava/lang/String;)V"⟩, .declares ⟨"java/lang/Throwable","<init>","()V"⟩, .declares ⟨"java/lang/Throwable","<init>","(Ljava/lang/String;)V"⟩]
def gNst (U : State) : Prop := ∀ w ∈ gNsw, va_Nw w U
theorem gNst_same {u U : State} (hv : u.vm = U.vm) (h : gNst u) : gNst U := fun w hw => va_Nw.same ((List.all_eq_true.mp (show gNsw.all Cond.onTables = true by decide +kernel)) w hw) hv (h w hw)
theorem gNst_warm {s U : State} (hW : s.WarmedH U.vm) (h : gNst s) : gNst U := by
  intro w hw
  have h1 := h w hw
  simp only [gNsw, List.mem_cons, List.not_mem_nil, or_false] at hw
  rcases hw with rfl | rfl | rfl | rfl | rfl | rfl | rfl | rfl | rfl | rfl | rfl | rfl | rfl
  · exact va_Nw.warmM hW h1
  · exact va_Nw.warmM hW h1
  · exact va_Nw.warmM hW h1
  · exact va_Nw.warmC hW h1
  · exact va_Nw.warmC hW h1
  · exact va_Nw.warmC hW h1
  · exact va_Nw.warmM hW h1
  · exact va_Nw.warmD hW h1
  · exact va_Nw.warmD hW h1
  · exact va_Nw.warmD hW h1
  · exact va_Nw.warmD hW h1
  · exact va_Nw.warmD hW h1
  · exact va_Nw.warmD hW h1
/-- an activation's fixed things -/
def gX (p : Program) (m : MethodId) (c : Code) (cc : ByteArray) (nL : Nat) (s : State) (args : Array Value) (Ts : List Cond) (own : String) (D : va_G) (cy : Nat → ClassId) (A : Nat → Prop) : Prop := CallFix p m c cc nL s args Ts own ∧ va_K D vwCl (gT cy) s ∧ (∀ q, s.heap.size ≤ q → A q) ∧ (∀ w ∈ wAll, w ∈ Ts) ∧ gNst s
/-- the walk, whatever the heap that holds the world -/
def GW (p : Program) (l : Launch) (e : Env) (R : Room) (s : State) (m : MethodId) (args : Array Value) (below : List Frame) (meth : Method) (c : Code) (Q : State → Prop) (nL : Nat) (D : va_G) (A : Nat → Prop) (n : Nat) (ad : Nat → Nat) (cz : Nat → (Nat → Int32) → va_E) (ρ : Nat → Nat → Int32) (cells slots pc : Nat) (ls : List (Nat × Value)) (st : List Value) : Prop :=
  ∀ (H : Heap) (locs : List Loc) (la : Array Slot), va_P D vwCl (gWl n ad cz ρ) H → va_D A (gWl n ad cz ρ) → va_S A s.heap H locs → lv_has la nL ls → W p l e R s m args below meth c H locs cells slots Q (F0 m pc la st)
section GWS
variable {p : Program} {l : Launch} {e : Env} {R : Room} {s : State} {m : MethodId} {args : Array Value} {below : List Frame} {meth : Method} {c : Code} {Q : State → Prop}
variable {cc : ByteArray} {nL : Nat} {Ts : List Cond} {own : String} {D : va_G} {cy : Nat → ClassId} {A : Nat → Prop}
variable {n : Nat} {ad : Nat → Nat} {cz : Nat → (Nat → Int32) → va_E} {ρ : Nat → Nat → Int32} {cells slots pc : Nat} {ls ls' : List (Nat × Value)} {st rest : List Value}

theorem g_iconst (X : gX p m c cc nL s args Ts own D cy A) {z : Int} {v : Int32} (hd : decode cc pc = .ok (.iconst z, 1)) (hv : Int32.ofInt z = v) (kk : GW p l e R s m args below meth c Q nL D A n ad cz ρ cells slots (pc + 1) ls (.int v :: st)) : GW p l e R s m args below meth c Q nL D A n ad cz ρ cells slots pc ls st := fun H locs la hP hD hS hl => lv_iconst X.1.1 X.1.2.1 hd hv (kk H locs la hP hD hS hl)
theorem g_bipush (X : gX p m c cc nL s args Ts own D cy A) {z : Int} {v : Int32} (hd : decode cc pc = .ok (.bipush z, 2)) (hv : (Int8.ofInt z).toInt32 = v) (kk : GW p l e R s m args below meth c Q nL D A n ad cz ρ cells slots (pc + 2) ls (.int v :: st)) : GW p l e R s m args below meth c Q nL D A n ad cz ρ cells slots pc ls st := fun H locs la hP hD hS hl => lv_bipush X.1.1 X.1.2.1 hd hv (kk H locs la hP hD hS hl)
theorem g_sipush (X : gX p m c cc nL s args Ts own D cy A) {z : Int} {v : Int32} (hd : decode cc pc = .ok (.sipush z, 3)) (hv : (Int16.ofInt z).toInt32 = v) (kk : GW p l e R s m args below meth c Q nL D A n ad cz ρ cells slots (pc + 3) ls (.int v :: st)) : GW p l e R s m args below meth c Q nL D A n ad cz ρ cells slots pc ls st := fun H locs la hP hD hS hl => lv_sipush X.1.1 X.1.2.1 hd hv (kk H locs la hP hD hS hl)
theorem g_lconst (X : gX p m c cc nL s args Ts own D cy A) {z : Fin 2} {v : Int64} (hd : decode cc pc = .ok (.lconst z, 1)) (hv : Int64.ofNat (z : Nat) = v) (kk : GW p l e R s m args below meth c Q nL D A n ad cz ρ cells slots (pc + 1) ls (.long v :: st)) : GW p l e R s m args below meth c Q nL D A n ad cz ρ cells slots pc ls st := fun H locs la hP hD hS hl => lv_lconst X.1.1 X.1.2.1 hd hv (kk H locs la hP hD hS hl)
theorem g_dconst0 (X : gX p m c cc nL s args Ts own D cy A)  (hd : decode cc pc = .ok (.dconst 0, 1)) (kk : GW p l e R s m args below meth c Q nL D A n ad cz ρ cells slots (pc + 1) ls (.double 0 :: st)) : GW p l e R s m args below meth c Q nL D A n ad cz ρ cells slots pc ls st := fun H locs la hP hD hS hl => lv_dconst0 X.1.1 X.1.2.1 hd (kk H locs la hP hD hS hl)
theorem g_iload_n (X : gX p m c cc nL s args Ts own D cy A) {k : Fin 4} {i : Nat} {x : Int32} (hd : decode cc pc = .ok (.iload_n k, 1)) (place : Nat) (hi : (k : Nat) = i) (hq : ls[place]? = some (i, .int x)) (kk : GW p l e R s m args below meth c Q nL D A n ad cz ρ cells slots (pc + 1) ls (.int x :: st)) : GW p l e R s m args below meth c Q nL D A n ad cz ρ cells slots pc ls st := fun H locs la hP hD hS hl => lv_iload_n X.1.1 X.1.2.1 hd hi (lv_at hl place hq) (kk H locs la hP hD hS hl)
theorem g_iload (X : gX p m c cc nL s args Ts own D cy A) {i : Nat} {x : Int32} (hd : decode cc pc = .ok (.iload i, 2)) (place : Nat) (hq : ls[place]? = some (i, .int x)) (kk : GW p l e R s m args below meth c Q nL D A n ad cz ρ cells slots (pc + 2) ls (.int x :: st)) : GW p l e R s m args below meth c Q nL D A n ad cz ρ cells slots pc ls st := fun H locs la hP hD hS hl => lv_iload X.1.1 X.1.2.1 hd (lv_at hl place hq) (kk H locs la hP hD hS hl)
theorem g_lload_n (X : gX p m c cc nL s args Ts own D cy A) {k : Fin 4} {i : Nat} {x : Int64} (hd : decode cc pc = .ok (.lload_n k, 1)) (place : Nat) (hi : (k : Nat) = i) (hq : ls[place]? = some (i, .long x)) (kk : GW p l e R s m args below meth c Q nL D A n ad cz ρ cells slots (pc + 1) ls (.long x :: st)) : GW p l e R s m args below meth c Q nL D A n ad cz ρ cells slots pc ls st := fun H locs la hP hD hS hl => lv_lload_n X.1.1 X.1.2.1 hd hi (lv_at hl place hq) (kk H locs la hP hD hS hl)
theorem g_lload (X : gX p m c cc nL s args Ts own D cy A) {i : Nat} {x : Int64} (hd : decode cc pc = .ok (.lload i, 2)) (place : Nat) (hq : ls[place]? = some (i, .long x)) (kk : GW p l e R s m args below meth c Q nL D A n ad cz ρ cells slots (pc + 2) ls (.long x :: st)) : GW p l e R s m args below meth c Q nL D A n ad cz ρ cells slots pc ls st := fun H locs la hP hD hS hl => lv_lload X.1.1 X.1.2.1 hd (lv_at hl place hq) (kk H locs la hP hD hS hl)
theorem g_aload_n (X : gX p m c cc nL s args Ts own D cy A) {k : Fin 4} {i : Nat} {x : Nat} (hd : decode cc pc = .ok (.aload_n k, 1)) (place : Nat) (hi : (k : Nat) = i) (hq : ls[place]? = some (i, .ref x)) (kk : GW p l e R s m args below meth c Q nL D A n ad cz ρ cells slots (pc + 1) ls (.ref x :: st)) : GW p l e R s m args below meth c Q nL D A n ad cz ρ cells slots pc ls st := fun H locs la hP hD hS hl => lv_aload_n X.1.1 X.1.2.1 hd hi (lv_at hl place hq) (kk H locs la hP hD hS hl)
theorem g_aload (X : gX p m c cc nL s args Ts own D cy A) {i : Nat} {x : Nat} (hd : decode cc pc = .ok (.aload i, 2)) (place : Nat) (hq : ls[place]? = some (i, .ref x)) (kk : GW p l e R s m args below meth c Q nL D A n ad cz ρ cells slots (pc + 2) ls (.ref x :: st)) : GW p l e R s m args below meth c Q nL D A n ad cz ρ cells slots pc ls st := fun H locs la hP hD hS hl => lv_aload X.1.1 X.1.2.1 hd (lv_at hl place hq) (kk H locs la hP hD hS hl)
theorem g_dload_n (X : gX p m c cc nL s args Ts own D cy A) {k : Fin 4} {i : Nat} {x : UInt64} (hd : decode cc pc = .ok (.dload_n k, 1)) (place : Nat) (hi : (k : Nat) = i) (hq : ls[place]? = some (i, .double x)) (kk : GW p l e R s m args below meth c Q nL D A n ad cz ρ cells slots (pc + 1) ls (.double x :: st)) : GW p l e R s m args below meth c Q nL D A n ad cz ρ cells slots pc ls st := fun H locs la hP hD hS hl => lv_dload_n X.1.1 X.1.2.1 hd hi (lv_at hl place hq) (kk H locs la hP hD hS hl)
theorem g_dload (X : gX p m c cc nL s args Ts own D cy A) {i : Nat} {x : UInt64} (hd : decode cc pc = .ok (.dload i, 2)) (place : Nat) (hq : ls[place]? = some (i, .double x)) (kk : GW p l e R s m args below meth c Q nL D A n ad cz ρ cells slots (pc + 2) ls (.double x :: st)) : GW p l e R s m args below meth c Q nL D A n ad cz ρ cells slots pc ls st := fun H locs la hP hD hS hl => lv_dload X.1.1 X.1.2.1 hd (lv_at hl place hq) (kk H locs la hP hD hS hl)
theorem g_istore_n (X : gX p m c cc nL s args Ts own D cy A) {k : Fin 4} {i : Nat} {x : Int32} (ls' : List (Nat × Value)) (hd : decode cc pc = .ok (.istore_n k, 1)) (hi : (k : Nat) = i) (hn : i < nL) (hq : (i, Value.int x) :: ls.filter (fun q => !(q.1 == i) && !(q.1 + 1 == i && q.2.category == 2)) = ls') (kk : GW p l e R s m args below meth c Q nL D A n ad cz ρ cells slots (pc + 1) ls' st) : GW p l e R s m args below meth c Q nL D A n ad cz ρ cells slots pc ls (.int x :: st) := fun H locs la hP hD hS hl => lv_istore_n X.1.1 X.1.2.1 hd hi hl hn hq (fun la' hl' => kk H locs la' hP hD hS hl')
theorem g_istore (X : gX p m c cc nL s args Ts own D cy A) {i : Nat} {x : Int32} (ls' : List (Nat × Value)) (hd : decode cc pc = .ok (.istore i, 2)) (hn : i < nL) (hq : (i, Value.int x) :: ls.filter (fun q => !(q.1 == i) && !(q.1 + 1 == i && q.2.category == 2)) = ls') (kk : GW p l e R s m args below meth c Q nL D A n ad cz ρ cells slots (pc + 2) ls' st) : GW p l e R s m args below meth c Q nL D A n ad cz ρ cells slots pc ls (.int x :: st) := fun H locs la hP hD hS hl => lv_istore X.1.1 X.1.2.1 hd hl hn hq (fun la' hl' => kk H locs la' hP hD hS hl')
theorem g_astore_n (X : gX p m c cc nL s args Ts own D cy A) {k : Fin 4} {i : Nat} {x : Nat} (ls' : List (Nat × Value)) (hd : decode cc pc = .ok (.astore_n k, 1)) (hi : (k : Nat) = i) (hn : i < nL) (hq : (i, Value.ref x) :: ls.filter (fun q => !(q.1 == i) && !(q.1 + 1 == i && q.2.category == 2)) = ls') (kk : GW p l e R s m args below meth c Q nL D A n ad cz ρ cells slots (pc + 1) ls' st) : GW p l e R s m args below meth c Q nL D A n ad cz ρ cells slots pc ls (.ref x :: st) := fun H locs la hP hD hS hl => lv_astore_n X.1.1 X.1.2.1 hd hi hl hn hq (fun la' hl' => kk H locs la' hP hD hS hl')
theorem g_astore (X : gX p m c cc nL s args Ts own D cy A) {i : Nat} {x : Nat} (ls' : List (Nat × Value)) (hd : decode cc pc = .ok (.astore i, 2)) (hn : i < nL) (hq : (i, Value.ref x) :: ls.filter (fun q => !(q.1 == i) && !(q.1 + 1 == i && q.2.category == 2)) = ls') (kk : GW p l e R s m args below meth c Q nL D A n ad cz ρ cells slots (pc + 2) ls' st) : GW p l e R s m args below meth c Q nL D A n ad cz ρ cells slots pc ls (.ref x :: st) := fun H locs la hP hD hS hl => lv_astore X.1.1 X.1.2.1 hd hl hn hq (fun la' hl' => kk H locs la' hP hD hS hl')
theorem g_lstore_n (X : gX p m c cc nL s args Ts own D cy A) {k : Fin 4} {i : Nat} {x : Int64} (ls' : List (Nat × Value)) (hd : decode cc pc = .ok (.lstore_n k, 1)) (hi : (k : Nat) = i) (hn : i + 1 < nL) (hq : (i, Value.long x) :: ls.filter (fun q => !(q.1 == i) && (!(q.1 == i + 1) && !(q.1 + 1 == i && q.2.category == 2))) = ls') (kk : GW p l e R s m args below meth c Q nL D A n ad cz ρ cells slots (pc + 1) ls' st) : GW p l e R s m args below meth c Q nL D A n ad cz ρ cells slots pc ls (.long x :: st) := fun H locs la hP hD hS hl => lv_lstore_n X.1.1 X.1.2.1 hd hi hl hn hq (fun la' hl' => kk H locs la' hP hD hS hl')
theorem g_lstore (X : gX p m c cc nL s args Ts own D cy A) {i : Nat} {x : Int64} (ls' : List (Nat × Value)) (hd : decode cc pc = .ok (.lstore i, 2)) (hn : i + 1 < nL) (hq : (i, Value.long x) :: ls.filter (fun q => !(q.1 == i) && (!(q.1 == i + 1) && !(q.1 + 1 == i && q.2.category == 2))) = ls') (kk : GW p l e R s m args below meth c Q nL D A n ad cz ρ cells slots (pc + 2) ls' st) : GW p l e R s m args below meth c Q nL D A n ad cz ρ cells slots pc ls (.long x :: st) := fun H locs la hP hD hS hl => lv_lstore X.1.1 X.1.2.1 hd hl hn hq (fun la' hl' => kk H locs la' hP hD hS hl')
theorem g_dstore_n (X : gX p m c cc nL s args Ts own D cy A) {k : Fin 4} {i : Nat} {x : UInt64} (ls' : List (Nat × Value)) (hd : decode cc pc = .ok (.dstore_n k, 1)) (hi : (k : Nat) = i) (hn : i + 1 < nL) (hq : (i, Value.double x) :: ls.filter (fun q => !(q.1 == i) && (!(q.1 == i + 1) && !(q.1 + 1 == i && q.2.category == 2))) = ls') (kk : GW p l e R s m args below meth c Q nL D A n ad cz ρ cells slots (pc + 1) ls' st) : GW p l e R s m args below meth c Q nL D A n ad cz ρ cells slots pc ls (.double x :: st) := fun H locs la hP hD hS hl => lv_dstore_n X.1.1 X.1.2.1 hd hi hl hn hq (fun la' hl' => kk H locs la' hP hD hS hl')
theorem g_dstore (X : gX p m c cc nL s args Ts own D cy A) {i : Nat} {x : UInt64} (ls' : List (Nat × Value)) (hd : decode cc pc = .ok (.dstore i, 2)) (hn : i + 1 < nL) (hq : (i, Value.double x) :: ls.filter (fun q => !(q.1 == i) && (!(q.1 == i + 1) && !(q.1 + 1 == i && q.2.category == 2))) = ls') (kk : GW p l e R s m args below meth c Q nL D A n ad cz ρ cells slots (pc + 2) ls' st) : GW p l e R s m args below meth c Q nL D A n ad cz ρ cells slots pc ls (.double x :: st) := fun H locs la hP hD hS hl => lv_dstore X.1.1 X.1.2.1 hd hl hn hq (fun la' hl' => kk H locs la' hP hD hS hl')
theorem g_iinc (X : gX p m c cc nL s args Ts own D cy A) {i : Nat} {z : Int} {x : Int32} (v : Int32) (ls' : List (Nat × Value)) (place : Nat) (hd : decode cc pc = .ok (.iinc i z, 3)) (hq : ls[place]? = some (i, .int x)) (hv : x + Int32.ofInt z = v) (hn : i < nL) (hf : (i, Value.int v) :: ls.filter (fun q => !(q.1 == i) && !(q.1 + 1 == i && q.2.category == 2)) = ls') (kk : GW p l e R s m args below meth c Q nL D A n ad cz ρ cells slots (pc + 3) ls' st) : GW p l e R s m args below meth c Q nL D A n ad cz ρ cells slots pc ls st := fun H locs la hP hD hS hl => lv_iinc X.1.1 X.1.2.1 hd hl hq hv hn hf (fun la' hl' => kk H locs la' hP hD hS hl')
theorem g_iadd (X : gX p m c cc nL s args Ts own D cy A) {x y : Int32} (hd : decode cc pc = .ok (.iadd, 1)) (kk : GW p l e R s m args below meth c Q nL D A n ad cz ρ cells slots (pc + 1) ls (.int (x + y) :: st)) : GW p l e R s m args below meth c Q nL D A n ad cz ρ cells slots pc ls (.int y :: .int x :: st) := fun H locs la hP hD hS hl => lv_iadd X.1.1 X.1.2.1 hd (kk H locs la hP hD hS hl)
theorem g_isub (X : gX p m c cc nL s args Ts own D cy A) {x y : Int32} (hd : decode cc pc = .ok (.isub, 1)) (kk : GW p l e R s m args below meth c Q nL D A n ad cz ρ cells slots (pc + 1) ls (.int (x - y) :: st)) : GW p l e R s m args below meth c Q nL D A n ad cz ρ cells slots pc ls (.int y :: .int x :: st) := fun H locs la hP hD hS hl => lv_isub X.1.1 X.1.2.1 hd (kk H locs la hP hD hS hl)
theorem g_imul (X : gX p m c cc nL s args Ts own D cy A) {x y : Int32} (hd : decode cc pc = .ok (.imul, 1)) (kk : GW p l e R s m args below meth c Q nL D A n ad cz ρ cells slots (pc + 1) ls (.int (x * y) :: st)) : GW p l e R s m args below meth c Q nL D A n ad cz ρ cells slots pc ls (.int y :: .int x :: st) := fun H locs la hP hD hS hl => lv_imul X.1.1 X.1.2.1 hd (kk H locs la hP hD hS hl)
theorem g_iand (X : gX p m c cc nL s args Ts own D cy A) {x y : Int32} (hd : decode cc pc = .ok (.iand, 1)) (kk : GW p l e R s m args below meth c Q nL D A n ad cz ρ cells slots (pc + 1) ls (.int (x &&& y) :: st)) : GW p l e R s m args below meth c Q nL D A n ad cz ρ cells slots pc ls (.int y :: .int x :: st) := fun H locs la hP hD hS hl => lv_iand X.1.1 X.1.2.1 hd (kk H locs la hP hD hS hl)
theorem g_ishr (X : gX p m c cc nL s args Ts own D cy A) {x y : Int32} (hd : decode cc pc = .ok (.ishr, 1)) (kk : GW p l e R s m args below meth c Q nL D A n ad cz ρ cells slots (pc + 1) ls (.int (x >>> (y &&& 31)) :: st)) : GW p l e R s m args below meth c Q nL D A n ad cz ρ cells slots pc ls (.int y :: .int x :: st) := fun H locs la hP hD hS hl => lv_ishr X.1.1 X.1.2.1 hd (kk H locs la hP hD hS hl)
theorem g_ixor (X : gX p m c cc nL s args Ts own D cy A) {x y : Int32} (hd : decode cc pc = .ok (.ixor, 1)) (kk : GW p l e R s m args below meth c Q nL D A n ad cz ρ cells slots (pc + 1) ls (.int (x ^^^ y) :: st)) : GW p l e R s m args below meth c Q nL D A n ad cz ρ cells slots pc ls (.int y :: .int x :: st) := fun H locs la hP hD hS hl => lv_ixor X.1.1 X.1.2.1 hd (kk H locs la hP hD hS hl)
theorem g_ladd (X : gX p m c cc nL s args Ts own D cy A) {x y : Int64} (hd : decode cc pc = .ok (.ladd, 1)) (kk : GW p l e R s m args below meth c Q nL D A n ad cz ρ cells slots (pc + 1) ls (.long (x + y) :: st)) : GW p l e R s m args below meth c Q nL D A n ad cz ρ cells slots pc ls (.long y :: .long x :: st) := fun H locs la hP hD hS hl => lv_ladd X.1.1 X.1.2.1 hd (kk H locs la hP hD hS hl)
theorem g_lmul (X : gX p m c cc nL s args Ts own D cy A) {x y : Int64} (hd : decode cc pc = .ok (.lmul, 1)) (kk : GW p l e R s m args below meth c Q nL D A n ad cz ρ cells slots (pc + 1) ls (.long (x * y) :: st)) : GW p l e R s m args below meth c Q nL D A n ad cz ρ cells slots pc ls (.long y :: .long x :: st) := fun H locs la hP hD hS hl => lv_lmul X.1.1 X.1.2.1 hd (kk H locs la hP hD hS hl)
theorem g_idiv (X : gX p m c cc nL s args Ts own D cy A) {x y : Int32} (hd : decode cc pc = .ok (.idiv, 1)) (hne : ¬ y = 0) (kk : GW p l e R s m args below meth c Q nL D A n ad cz ρ cells slots (pc + 1) ls (.int (x / y) :: st)) : GW p l e R s m args below meth c Q nL D A n ad cz ρ cells slots pc ls (.int y :: .int x :: st) := fun H locs la hP hD hS hl => lv_idiv X.1.1 X.1.2.1 hd hne (kk H locs la hP hD hS hl)
theorem g_irem (X : gX p m c cc nL s args Ts own D cy A) {x y : Int32} (hd : decode cc pc = .ok (.irem, 1)) (hne : ¬ y = 0) (kk : GW p l e R s m args below meth c Q nL D A n ad cz ρ cells slots (pc + 1) ls (.int (x - x / y * y) :: st)) : GW p l e R s m args below meth c Q nL D A n ad cz ρ cells slots pc ls (.int y :: .int x :: st) := fun H locs la hP hD hS hl => lv_irem X.1.1 X.1.2.1 hd hne (kk H locs la hP hD hS hl)
theorem g_ineg (X : gX p m c cc nL s args Ts own D cy A) {x : Int32} (hd : decode cc pc = .ok (.ineg, 1)) (kk : GW p l e R s m args below meth c Q nL D A n ad cz ρ cells slots (pc + 1) ls (.int (-x) :: st)) : GW p l e R s m args below meth c Q nL D A n ad cz ρ cells slots pc ls (.int x :: st) := fun H locs la hP hD hS hl => lv_ineg X.1.1 X.1.2.1 hd (kk H locs la hP hD hS hl)
theorem g_i2l (X : gX p m c cc nL s args Ts own D cy A) {x : Int32} (hd : decode cc pc = .ok (.i2l, 1)) (kk : GW p l e R s m args below meth c Q nL D A n ad cz ρ cells slots (pc + 1) ls (.long x.toInt64 :: st)) : GW p l e R s m args below meth c Q nL D A n ad cz ρ cells slots pc ls (.int x :: st) := fun H locs la hP hD hS hl => lv_i2l X.1.1 X.1.2.1 hd rfl (kk H locs la hP hD hS hl)
theorem g_i2d (X : gX p m c cc nL s args Ts own D cy A) {x : Int32} (hd : decode cc pc = .ok (.i2d, 1)) (kk : GW p l e R s m args below meth c Q nL D A n ad cz ρ cells slots (pc + 1) ls (.double (FP.i2d x) :: st)) : GW p l e R s m args below meth c Q nL D A n ad cz ρ cells slots pc ls (.int x :: st) := fun H locs la hP hD hS hl => lv_i2d X.1.1 X.1.2.1 hd (kk H locs la hP hD hS hl)
theorem g_lcmp (X : gX p m c cc nL s args Ts own D cy A) {x y : Int64} (hd : decode cc pc = .ok (.lcmp, 1)) (kk : GW p l e R s m args below meth c Q nL D A n ad cz ρ cells slots (pc + 1) ls (.int (lg_cmp x y) :: st)) : GW p l e R s m args below meth c Q nL D A n ad cz ρ cells slots pc ls (.long y :: .long x :: st) := fun H locs la hP hD hS hl => W.lcmp X.1.1 X.1.2.1 hd (kk H locs la hP hD hS hl)
theorem g_dcmp (X : gX p m c cc nL s args Ts own D cy A) {x y : UInt64} {op : CmpOp} (hd : decode cc pc = .ok (.dcmp op, 1)) (kk : GW p l e R s m args below meth c Q nL D A n ad cz ρ cells slots (pc + 1) ls (.int (Op.cmpValue (FP.dcmp x y) op) :: st)) : GW p l e R s m args below meth c Q nL D A n ad cz ρ cells slots pc ls (.double y :: .double x :: st) := fun H locs la hP hD hS hl => lv_dcmp X.1.1 X.1.2.1 hd (kk H locs la hP hD hS hl)
theorem g_ddiv (X : gX p m c cc nL s args Ts own D cy A) {x y : UInt64} (hd : decode cc pc = .ok (.ddiv, 1)) (hne : vf_n64 (FP.ddiv x y)) (kk : GW p l e R s m args below meth c Q nL D A n ad cz ρ cells slots (pc + 1) ls (.double (FP.ddiv x y) :: st)) : GW p l e R s m args below meth c Q nL D A n ad cz ρ cells slots pc ls (.double y :: .double x :: st) := fun H locs la hP hD hS hl => lv_ddiv X.1.1 X.1.2.1 hd hne (kk H locs la hP hD hS hl)
theorem g_dup (X : gX p m c cc nL s args Ts own D cy A) {va : Value} (hd : decode cc pc = .ok (.dup, 1)) (hva : va.category = 1) (kk : GW p l e R s m args below meth c Q nL D A n ad cz ρ cells slots (pc + 1) ls (va :: va :: st)) : GW p l e R s m args below meth c Q nL D A n ad cz ρ cells slots pc ls (va :: st) := fun H locs la hP hD hS hl => lv_dup X.1.1 X.1.2.1 hd hva (kk H locs la hP hD hS hl)
theorem g_pop (X : gX p m c cc nL s args Ts own D cy A) {va : Value} (hd : decode cc pc = .ok (.pop, 1)) (hva : va.category = 1) (kk : GW p l e R s m args below meth c Q nL D A n ad cz ρ cells slots (pc + 1) ls st) : GW p l e R s m args below meth c Q nL D A n ad cz ρ cells slots pc ls (va :: st) := fun H locs la hP hD hS hl => lv_pop X.1.1 X.1.2.1 hd hva (kk H locs la hP hD hS hl)
theorem g_dup_x1 (X : gX p m c cc nL s args Ts own D cy A) {va vb : Value} (hd : decode cc pc = .ok (.dup_x1, 1)) (hva : va.category = 1) (hvb : vb.category = 1) (kk : GW p l e R s m args below meth c Q nL D A n ad cz ρ cells slots (pc + 1) ls (va :: vb :: va :: st)) : GW p l e R s m args below meth c Q nL D A n ad cz ρ cells slots pc ls (va :: vb :: st) := fun H locs la hP hD hS hl => lv_dup_x1 X.1.1 X.1.2.1 hd hva hvb (kk H locs la hP hD hS hl)
theorem g_dup2 (X : gX p m c cc nL s args Ts own D cy A) {va vb : Value} (hd : decode cc pc = .ok (.dup2, 1)) (hva : va.category = 1) (hvb : vb.category = 1) (kk : GW p l e R s m args below meth c Q nL D A n ad cz ρ cells slots (pc + 1) ls (va :: vb :: va :: vb :: st)) : GW p l e R s m args below meth c Q nL D A n ad cz ρ cells slots pc ls (va :: vb :: st) := fun H locs la hP hD hS hl => lv_dup2_11 X.1.1 X.1.2.1 hd hva hvb (kk H locs la hP hD hS hl)
theorem g_if_eq (X : gX p m c cc nL s args Ts own D cy A) {x : Int32} {off : Int} (tgt : Nat) (hd : decode cc pc = .ok (.ifCond .eq off, 3)) (ht : (pc : Int) + off = (tgt : Int)) (kt : x = 0 → GW p l e R s m args below meth c Q nL D A n ad cz ρ cells slots tgt ls st) (kf : ¬ x = 0 → GW p l e R s m args below meth c Q nL D A n ad cz ρ cells slots (pc + 3) ls st) : GW p l e R s m args below meth c Q nL D A n ad cz ρ cells slots pc ls (.int x :: st) := fun H locs la hP hD hS hl => lv_if_eq X.1.1 X.1.2.1 hd ht (fun h => kt h H locs la hP hD hS hl) (fun h => kf h H locs la hP hD hS hl)
theorem g_icmp_eq (X : gX p m c cc nL s args Ts own D cy A) {x y : Int32} {off : Int} (tgt : Nat) (hd : decode cc pc = .ok (.if_icmp .eq off, 3)) (ht : (pc : Int) + off = (tgt : Int)) (kt : x = y → GW p l e R s m args below meth c Q nL D A n ad cz ρ cells slots tgt ls st) (kf : ¬ x = y → GW p l e R s m args below meth c Q nL D A n ad cz ρ cells slots (pc + 3) ls st) : GW p l e R s m args below meth c Q nL D A n ad cz ρ cells slots pc ls (.int y :: .int x :: st) := fun H locs la hP hD hS hl => lv_icmp_eq X.1.1 X.1.2.1 hd ht (fun h => kt h H locs la hP hD hS hl) (fun h => kf h H locs la hP hD hS hl)
theorem g_if_ne (X : gX p m c cc nL s args Ts own D cy A) {x : Int32} {off : Int} (tgt : Nat) (hd : decode cc pc = .ok (.ifCond .ne off, 3)) (ht : (pc : Int) + off = (tgt : Int)) (kt : ¬ x = 0 → GW p l e R s m args below meth c Q nL D A n ad cz ρ cells slots tgt ls st) (kf : x = 0 → GW p l e R s m args below meth c Q nL D A n ad cz ρ cells slots (pc + 3) ls st) : GW p l e R s m args below meth c Q nL D A n ad cz ρ cells slots pc ls (.int x :: st) := fun H locs la hP hD hS hl => lv_if_ne X.1.1 X.1.2.1 hd ht (fun h => kt h H locs la hP hD hS hl) (fun h => kf h H locs la hP hD hS hl)
theorem g_icmp_ne (X : gX p m c cc nL s args Ts own D cy A) {x y : Int32} {off : Int} (tgt : Nat) (hd : decode cc pc = .ok (.if_icmp .ne off, 3)) (ht : (pc : Int) + off = (tgt : Int)) (kt : ¬ x = y → GW p l e R s m args below meth c Q nL D A n ad cz ρ cells slots tgt ls st) (kf : x = y → GW p l e R s m args below meth c Q nL D A n ad cz ρ cells slots (pc + 3) ls st) : GW p l e R s m args below meth c Q nL D A n ad cz ρ cells slots pc ls (.int y :: .int x :: st) := fun H locs la hP hD hS hl => lv_icmp_ne X.1.1 X.1.2.1 hd ht (fun h => kt h H locs la hP hD hS hl) (fun h => kf h H locs la hP hD hS hl)
theorem g_if_lt (X : gX p m c cc nL s args Ts own D cy A) {x : Int32} {off : Int} (tgt : Nat) (hd : decode cc pc = .ok (.ifCond .lt off, 3)) (ht : (pc : Int) + off = (tgt : Int)) (kt : x < 0 → GW p l e R s m args below meth c Q nL D A n ad cz ρ cells slots tgt ls st) (kf : ¬ x < 0 → GW p l e R s m args below meth c Q nL D A n ad cz ρ cells slots (pc + 3) ls st) : GW p l e R s m args below meth c Q nL D A n ad cz ρ cells slots pc ls (.int x :: st) := fun H locs la hP hD hS hl => lv_if_lt X.1.1 X.1.2.1 hd ht (fun h => kt h H locs la hP hD hS hl) (fun h => kf h H locs la hP hD hS hl)
theorem g_icmp_lt (X : gX p m c cc nL s args Ts own D cy A) {x y : Int32} {off : Int} (tgt : Nat) (hd : decode cc pc = .ok (.if_icmp .lt off, 3)) (ht : (pc : Int) + off = (tgt : Int)) (kt : x < y → GW p l e R s m args below meth c Q nL D A n ad cz ρ cells slots tgt ls st) (kf : ¬ x < y → GW p l e R s m args below meth c Q nL D A n ad cz ρ cells slots (pc + 3) ls st) : GW p l e R s m args below meth c Q nL D A n ad cz ρ cells slots pc ls (.int y :: .int x :: st) := fun H locs la hP hD hS hl => lv_icmp_lt X.1.1 X.1.2.1 hd ht (fun h => kt h H locs la hP hD hS hl) (fun h => kf h H locs la hP hD hS hl)
theorem g_if_ge (X : gX p m c cc nL s args Ts own D cy A) {x : Int32} {off : Int} (tgt : Nat) (hd : decode cc pc = .ok (.ifCond .ge off, 3)) (ht : (pc : Int) + off = (tgt : Int)) (kt : 0 ≤ x → GW p l e R s m args below meth c Q nL D A n ad cz ρ cells slots tgt ls st) (kf : ¬ 0 ≤ x → GW p l e R s m args below meth c Q nL D A n ad cz ρ cells slots (pc + 3) ls st) : GW p l e R s m args below meth c Q nL D A n ad cz ρ cells slots pc ls (.int x :: st) := fun H locs la hP hD hS hl => lv_if_ge X.1.1 X.1.2.1 hd ht (fun h => kt h H locs la hP hD hS hl) (fun h => kf h H locs la hP hD hS hl)
theorem g_icmp_ge (X : gX p m c cc nL s args Ts own D cy A) {x y : Int32} {off : Int} (tgt : Nat) (hd : decode cc pc = .ok (.if_icmp .ge off, 3)) (ht : (pc : Int) + off = (tgt : Int)) (kt : y ≤ x → GW p l e R s m args below meth c Q nL D A n ad cz ρ cells slots tgt ls st) (kf : ¬ y ≤ x → GW p l e R s m args below meth c Q nL D A n ad cz ρ cells slots (pc + 3) ls st) : GW p l e R s m args below meth c Q nL D A n ad cz ρ cells slots pc ls (.int y :: .int x :: st) := fun H locs la hP hD hS hl => lv_icmp_ge X.1.1 X.1.2.1 hd ht (fun h => kt h H locs la hP hD hS hl) (fun h => kf h H locs la hP hD hS hl)
theorem g_if_gt (X : gX p m c cc nL s args Ts own D cy A) {x : Int32} {off : Int} (tgt : Nat) (hd : decode cc pc = .ok (.ifCond .gt off, 3)) (ht : (pc : Int) + off = (tgt : Int)) (kt : 0 < x → GW p l e R s m args below meth c Q nL D A n ad cz ρ cells slots tgt ls st) (kf : ¬ 0 < x → GW p l e R s m args below meth c Q nL D A n ad cz ρ cells slots (pc + 3) ls st) : GW p l e R s m args below meth c Q nL D A n ad cz ρ cells slots pc ls (.int x :: st) := fun H locs la hP hD hS hl => lv_if_gt X.1.1 X.1.2.1 hd ht (fun h => kt h H locs la hP hD hS hl) (fun h => kf h H locs la hP hD hS hl)
theorem g_icmp_gt (X : gX p m c cc nL s args Ts own D cy A) {x y : Int32} {off : Int} (tgt : Nat) (hd : decode cc pc = .ok (.if_icmp .gt off, 3)) (ht : (pc : Int) + off = (tgt : Int)) (kt : y < x → GW p l e R s m args below meth c Q nL D A n ad cz ρ cells slots tgt ls st) (kf : ¬ y < x → GW p l e R s m args below meth c Q nL D A n ad cz ρ cells slots (pc + 3) ls st) : GW p l e R s m args below meth c Q nL D A n ad cz ρ cells slots pc ls (.int y :: .int x :: st) := fun H locs la hP hD hS hl => lv_icmp_gt X.1.1 X.1.2.1 hd ht (fun h => kt h H locs la hP hD hS hl) (fun h => kf h H locs la hP hD hS hl)
theorem g_if_le (X : gX p m c cc nL s args Ts own D cy A) {x : Int32} {off : Int} (tgt : Nat) (hd : decode cc pc = .ok (.ifCond .le off, 3)) (ht : (pc : Int) + off = (tgt : Int)) (kt : x ≤ 0 → GW p l e R s m args below meth c Q nL D A n ad cz ρ cells slots tgt ls st) (kf : ¬ x ≤ 0 → GW p l e R s m args below meth c Q nL D A n ad cz ρ cells slots (pc + 3) ls st) : GW p l e R s m args below meth c Q nL D A n ad cz ρ cells slots pc ls (.int x :: st) := fun H locs la hP hD hS hl => lv_if_le X.1.1 X.1.2.1 hd ht (fun h => kt h H locs la hP hD hS hl) (fun h => kf h H locs la hP hD hS hl)
theorem g_icmp_le (X : gX p m c cc nL s args Ts own D cy A) {x y : Int32} {off : Int} (tgt : Nat) (hd : decode cc pc = .ok (.if_icmp .le off, 3)) (ht : (pc : Int) + off = (tgt : Int)) (kt : x ≤ y → GW p l e R s m args below meth c Q nL D A n ad cz ρ cells slots tgt ls st) (kf : ¬ x ≤ y → GW p l e R s m args below meth c Q nL D A n ad cz ρ cells slots (pc + 3) ls st) : GW p l e R s m args below meth c Q nL D A n ad cz ρ cells slots pc ls (.int y :: .int x :: st) := fun H locs la hP hD hS hl => lv_icmp_le X.1.1 X.1.2.1 hd ht (fun h => kt h H locs la hP hD hS hl) (fun h => kf h H locs la hP hD hS hl)
theorem g_goto (X : gX p m c cc nL s args Ts own D cy A) {off : Int} (tgt : Nat) (hd : decode cc pc = .ok (.goto off, 3)) (ht : (pc : Int) + off = (tgt : Int)) (kk : GW p l e R s m args below meth c Q nL D A n ad cz ρ cells slots tgt ls st) : GW p l e R s m args below meth c Q nL D A n ad cz ρ cells slots pc ls st := fun H locs la hP hD hS hl => lv_goto X.1.1 X.1.2.1 hd ht (kk H locs la hP hD hS hl)
theorem g_tableOut (X : gX p m c cc nL s args Ts own D cy A) {dflt lo hi : Int} {offs : Array Int} {len : Nat} {x : Int32} (tgt : Nat) (hd : decode cc pc = .ok (.tableswitch dflt lo hi offs, len)) (h : x.toInt < lo ∨ hi < x.toInt) (ht : (pc : Int) + dflt = (tgt : Int)) (kk : GW p l e R s m args below meth c Q nL D A n ad cz ρ cells slots tgt ls st) : GW p l e R s m args below meth c Q nL D A n ad cz ρ cells slots pc ls (.int x :: st) := fun H locs la hP hD hS hl => lv_tableOut X.1.1 X.1.2.1 hd h ht (kk H locs la hP hD hS hl)
theorem g_tableIn (X : gX p m c cc nL s args Ts own D cy A) {dflt lo hi : Int} {offs : Array Int} {len : Nat} {x : Int32} {off : Int} (tgt : Nat) (hd : decode cc pc = .ok (.tableswitch dflt lo hi offs, len)) (h1 : ¬ x.toInt < lo) (h2 : ¬ hi < x.toInt) (ho : offs[(x.toInt - lo).toNat]? = some off) (ht : (pc : Int) + off = (tgt : Int)) (kk : GW p l e R s m args below meth c Q nL D A n ad cz ρ cells slots tgt ls st) : GW p l e R s m args below meth c Q nL D A n ad cz ρ cells slots pc ls (.int x :: st) := fun H locs la hP hD hS hl => lv_tableIn X.1.1 X.1.2.1 hd h1 h2 ho ht (kk H locs la hP hD hS hl)
theorem g_ldc2 (X : gX p m c cc nL s args Ts own D cy A) {index : Nat} {v : Int64} (hw : Cond.constantLong own index v ∈ wAll) (hd : decode cc pc = .ok (.ldc2_w index, 3)) (kk : GW p l e R s m args below meth c Q nL D A n ad cz ρ cells slots (pc + 3) ls (.long v :: st)) : GW p l e R s m args below meth c Q nL D A n ad cz ρ cells slots pc ls st := fun H locs la hP hD hS hl => lv_ldc2 X.1.1 X.1.2.1 X.1.2.2.2.1 (X.1.2.2.2.2 _ (X.2.2.2.1 _ hw)) hd (kk H locs la hP hD hS hl)
theorem g_geti (X : gX p m c cc nL s args Ts own D cy A) {ref C : String} {T : u_T} {N ci index : Nat} (k : Nat) (hk : k < n) (j : Nat) (hj : j < N) (hin : ∀ w ∈ u_ws C T N, w ∈ wAll) (hc : vwCl[ci]? = some (C, T, N)) (hw : Cond.fieldLink own index ref (T j).2.1 (T j).2.2.1 ∈ wAll) (hsame : (T j).1 = ref) (hF : gFI cz k ci j) (hd : decode cc pc = .ok (.getfield index, 3)) (kk : GW p l e R s m args below meth c Q nL D A n ad cz ρ cells slots (pc + 3) ls (.int (ρ k j) :: st)) : GW p l e R s m args below meth c Q nL D A n ad cz ρ cells slots pc ls (.ref (ad k) :: st) := fun H locs la hP hD hS hl => by
  obtain ⟨fs, h1, h2, h3, h4⟩ := hF (ρ k)
  exact va_get X.1.1 X.1.2.1 X.1.2.2.2.2 (fun w h => X.2.2.2.1 w (hin w h)) X.1.2.2.2.1 X.2.1 hP k ((gWl_get hk).trans (by rw [h1])) hc j hj (X.1.2.2.2.2 _ (X.2.2.2.1 _ hw)) (fun _ h9 => hsame ▸ h9) h2 hd (kk H locs la hP hD hS hl)
theorem g_getr (X : gX p m c cc nL s args Ts own D cy A) {ref C : String} {T : u_T} {N ci index : Nat} (k : Nat) (hk : k < n) (j : Nat) (hj : j < N) (hin : ∀ w ∈ u_ws C T N, w ∈ wAll) (hc : vwCl[ci]? = some (C, T, N)) (hw : Cond.fieldLink own index ref (T j).2.1 (T j).2.2.1 ∈ wAll) (hsame : (T j).1 = ref) {k2 : Nat} (hF : gFR cz ad k ci j k2) (hd : decode cc pc = .ok (.getfield index, 3)) (kk : GW p l e R s m args below meth c Q nL D A n ad cz ρ cells slots (pc + 3) ls (.ref (ad k2) :: st)) : GW p l e R s m args below meth c Q nL D A n ad cz ρ cells slots pc ls (.ref (ad k) :: st) := fun H locs la hP hD hS hl => by
  obtain ⟨fs, h1, h2⟩ := hF (ρ k)
  exact va_get X.1.1 X.1.2.1 X.1.2.2.2.2 (fun w h => X.2.2.2.1 w (hin w h)) X.1.2.2.2.1 X.2.1 hP k ((gWl_get hk).trans (by rw [h1])) hc j hj (X.1.2.2.2.2 _ (X.2.2.2.1 _ hw)) (fun _ h9 => hsame ▸ h9) h2 hd (kk H locs la hP hD hS hl)
theorem g_puti (X : gX p m c cc nL s args Ts own D cy A) {ref C : String} {T : u_T} {N ci index : Nat} (k : Nat) (hk : k < n) (j : Nat) (hj : j < N) (hin : ∀ w ∈ u_ws C T N, w ∈ wAll) (hc : vwCl[ci]? = some (C, T, N)) (hw : Cond.fieldLink own index ref (T j).2.1 (T j).2.2.1 ∈ wAll) (hsame : (T j).1 = ref) {v : Int32} (ty0 : Nat → FieldType) (hty : ∀ k, k < N → parseFieldDescriptor (T k).2.2.1 = some (ty0 k)) (hnm : ∀ a, a < N → ∀ b, b < N → a ≠ b → (T a).2.1 ≠ (T b).2.1) (hfin : (T j).2.2.2 = false) (hpd : parseFieldDescriptor (T j).2.2.1 = some .int) (hF : gFI cz k ci j) (hd : decode cc pc = .ok (.putfield index, 3)) (kk : ∀ ρ1, ρ1 = up2 ρ k j v → GW p l e R s m args below meth c Q nL D A n ad cz ρ1 cells slots (pc + 3) ls st) : GW p l e R s m args below meth c Q nL D A n ad cz ρ cells slots pc ls (.int v :: .ref (ad k) :: st) := fun H locs la hP hD hS hl => by
  obtain ⟨fs, h1, h2, h3, h4⟩ := hF (ρ k)
  refine va_put X.1.1 X.1.2.1 X.1.2.2.2.2 (fun w h => X.2.2.2.1 w (hin w h)) ty0 hty hnm X.1.2.2.2.1 X.2.1 hP hD hS k ((gWl_get hk).trans (by rw [h1])) hc j hj (X.1.2.2.2.2 _ (X.2.2.2.1 _ hw)) (fun _ h9 => hsame ▸ h9) hfin hpd rfl rfl h3 hd (fun H1 locs1 hP1 hD1 hS1 => ?_)
  rw [gWl_set hk (h4 v)] at hP1 hD1
  exact kk _ rfl H1 locs1 la hP1 hD1 hS1 hl
theorem g_getiN (X : gX p m c cc nL s args Ts own D cy A) {ref C host : String} {T : u_T} {N ci index : Nat} (k : Nat) (hk : k < n) (j : Nat) (hj : j < N) (hin : ∀ w ∈ u_ws C T N, w ∈ wAll) (hc : vwCl[ci]? = some (C, T, N)) (hw : Cond.fieldLinkNest own index ref (T j).2.1 (T j).2.2.1 host ∈ gNsw) (hsame : (T j).1 = ref) (hF : gFI cz k ci j) (hd : decode cc pc = .ok (.getfield index, 3)) (kk : GW p l e R s m args below meth c Q nL D A n ad cz ρ cells slots (pc + 3) ls (.int (ρ k j) :: st)) : GW p l e R s m args below meth c Q nL D A n ad cz ρ cells slots pc ls (.ref (ad k) :: st) := fun H locs la hP hD hS hl => by
  obtain ⟨fs, h1, h2, h3, h4⟩ := hF (ρ k)
  exact va_getN X.1.1 X.1.2.1 X.1.2.2.2.2 (fun w h => X.2.2.2.1 w (hin w h)) X.1.2.2.2.1 X.2.1 hP k ((gWl_get hk).trans (by rw [h1])) hc j hj (va_Nw.use rfl (X.2.2.2.2 _ hw)) (fun _ h9 => hsame ▸ h9) h2 hd (kk H locs la hP hD hS hl)
theorem g_getrN (X : gX p m c cc nL s args Ts own D cy A) {ref C host : String} {T : u_T} {N ci index : Nat} (k : Nat) (hk : k < n) (j : Nat) (hj : j < N) (hin : ∀ w ∈ u_ws C T N, w ∈ wAll) (hc : vwCl[ci]? = some (C, T, N)) (hw : Cond.fieldLinkNest own index ref (T j).2.1 (T j).2.2.1 host ∈ gNsw) (hsame : (T j).1 = ref) {k2 : Nat} (hF : gFR cz ad k ci j k2) (hd : decode cc pc = .ok (.getfield index, 3)) (kk : GW p l e R s m args below meth c Q nL D A n ad cz ρ cells slots (pc + 3) ls (.ref (ad k2) :: st)) : GW p l e R s m args below meth c Q nL D A n ad cz ρ cells slots pc ls (.ref (ad k) :: st) := fun H locs la hP hD hS hl => by
  obtain ⟨fs, h1, h2⟩ := hF (ρ k)
  exact va_getN X.1.1 X.1.2.1 X.1.2.2.2.2 (fun w h => X.2.2.2.1 w (hin w h)) X.1.2.2.2.1 X.2.1 hP k ((gWl_get hk).trans (by rw [h1])) hc j hj (va_Nw.use rfl (X.2.2.2.2 _ hw)) (fun _ h9 => hsame ▸ h9) h2 hd (kk H locs la hP hD hS hl)
theorem g_iald (X : gX p m c cc nL s args Ts own D cy A) {len : Nat} {i : Int32} (k : Nat) (hk : k < n) (hF : gAI cz (cy 0) k len) (hin : vp_in i len) (hd : decode cc pc = .ok (.iaload, 1)) (kk : GW p l e R s m args below meth c Q nL D A n ad cz ρ cells slots (pc + 1) ls (.int (ρ k i.toNatClampNeg) :: st)) : GW p l e R s m args below meth c Q nL D A n ad cz ρ cells slots pc ls (.int i :: .ref (ad k) :: st) := fun H locs la hP hD hS hl => va_iald X.1.1 X.1.2.1 X.2.1 hP k 0 ((gWl_get hk).trans (by rw [hF (ρ k)])) rfl hin hd (kk H locs la hP hD hS hl)
theorem g_zald (X : gX p m c cc nL s args Ts own D cy A) {len : Nat} {i : Int32} (k : Nat) (hk : k < n) (hF : gAI cz (cy 1) k len) (hin : vp_in i len) (hd : decode cc pc = .ok (.baload, 1)) (kk : GW p l e R s m args below meth c Q nL D A n ad cz ρ cells slots (pc + 1) ls (.int (ρ k i.toNatClampNeg) :: st)) : GW p l e R s m args below meth c Q nL D A n ad cz ρ cells slots pc ls (.int i :: .ref (ad k) :: st) := fun H locs la hP hD hS hl => va_zald X.1.1 X.1.2.1 X.2.1 hP k 1 ((gWl_get hk).trans (by rw [hF (ρ k)])) rfl hin hd (kk H locs la hP hD hS hl)
theorem g_iast (X : gX p m c cc nL s args Ts own D cy A) {len : Nat} {i x : Int32} (k : Nat) (hk : k < n) (hF : gAI cz (cy 0) k len) (hin : vp_in i len) (hd : decode cc pc = .ok (.iastore, 1)) (kk : ∀ ρ1, ρ1 = up2 ρ k i.toNatClampNeg x → GW p l e R s m args below meth c Q nL D A n ad cz ρ1 cells slots (pc + 1) ls st) : GW p l e R s m args below meth c Q nL D A n ad cz ρ cells slots pc ls (.int x :: .int i :: .ref (ad k) :: st) := fun H locs la hP hD hS hl => by
  refine va_iast X.1.1 X.1.2.1 X.2.1 hP hD hS k 0 ((gWl_get hk).trans (by rw [hF (ρ k)])) rfl hin hd (fun H1 locs1 hP1 hD1 hS1 => ?_)
  rw [gWl_set hk (hF _).symm] at hP1 hD1
  exact kk _ rfl H1 locs1 la hP1 hD1 hS1 hl
theorem g_zast (X : gX p m c cc nL s args Ts own D cy A) {len : Nat} {i x : Int32} (k : Nat) (hk : k < n) (hF : gAI cz (cy 1) k len) (hx : vp_nar .boolean x = x) (hin : vp_in i len) (hd : decode cc pc = .ok (.bastore, 1)) (kk : ∀ ρ1, ρ1 = up2 ρ k i.toNatClampNeg x → GW p l e R s m args below meth c Q nL D A n ad cz ρ1 cells slots (pc + 1) ls st) : GW p l e R s m args below meth c Q nL D A n ad cz ρ cells slots pc ls (.int x :: .int i :: .ref (ad k) :: st) := fun H locs la hP hD hS hl => by
  refine va_zast X.1.1 X.1.2.1 X.2.1 hP hD hS k 1 ((gWl_get hk).trans (by rw [hF (ρ k)])) rfl hin hd (fun H1 locs1 hP1 hD1 hS1 => ?_)
  rw [hx, gWl_set hk (hF _).symm] at hP1 hD1
  exact kk _ rfl H1 locs1 la hP1 hD1 hS1 hl
theorem g_aald (X : gX p m c cc nL s args Ts own D cy A) {len t0 : Nat} {C : String} {tgt : Nat → Nat} {i : Int32} (k : Nat) (hk : k < n) {cA : ClassId} (hF : gAR cz ad cA k len tgt) (ht : (gT cy)[t0]? = some (cA, .object C)) (hin : vp_in i len) (hd : decode cc pc = .ok (.aaload, 1)) (kk : GW p l e R s m args below meth c Q nL D A n ad cz ρ cells slots (pc + 1) ls (.ref (ad (tgt i.toNatClampNeg)) :: st)) : GW p l e R s m args below meth c Q nL D A n ad cz ρ cells slots pc ls (.int i :: .ref (ad k) :: st) := fun H locs la hP hD hS hl => by
  obtain ⟨f, h1, h2⟩ := hF (ρ k)
  refine va_aldq X.1.1 X.1.2.1 X.2.1 hP k t0 ((gWl_get hk).trans (by rw [h1])) ht hin hd ?_
  rw [h2 _ (Nat.not_le.mp fun q => hin (Or.inr q))]
  exact kk H locs la hP hD hS hl
theorem g_widen {k9 n9 : Nat} (h1 : cells ≤ k9) (h2 : slots ≤ n9) (kk : GW p l e R s m args below meth c Q nL D A n ad cz ρ k9 n9 pc ls st) : GW p l e R s m args below meth c Q nL D A n ad cz ρ cells slots pc ls st := fun H locs la hP hD hS hl => W.widen h1 h2 (kk H locs la hP hD hS hl)
theorem g_ls (ks : List Nat) (h : lv_pick ls ks = ls') (kk : GW p l e R s m args below meth c Q nL D A n ad cz ρ cells slots pc ls' st) : GW p l e R s m args below meth c Q nL D A n ad cz ρ cells slots pc ls st := fun H locs la hP hD hS hl => kk H locs la hP hD hS (lv_sub hl ks h)
theorem g_congr {ρ1 : Nat → Nat → Int32} (h : ∀ k, k < n → cz k (ρ k) = cz k (ρ1 k)) (kk : GW p l e R s m args below meth c Q nL D A n ad cz ρ1 cells slots pc ls st) : GW p l e R s m args below meth c Q nL D A n ad cz ρ cells slots pc ls st := fun H locs la hP hD hS hl => kk H locs la (gP_congr h hP) (gD_of (gD_inj hD) (fun _ hk => gD_in hD hk)) hS hl
theorem g_topi {x : Int32} (kk : ∀ y : Int32, y = x → GW p l e R s m args below meth c Q nL D A n ad cz ρ cells slots pc ls (.int y :: st)) : GW p l e R s m args below meth c Q nL D A n ad cz ρ cells slots pc ls (.int x :: st) := kk x rfl
theorem g_mmin (X : gX p m c cc nL s args Ts own D cy A) {x y : Int32} {index : Nat} (hw1 : Cond.methodLink own index Lib.Math.min.name ∈ wAll) (hw2 : Cond.static Lib.Math.min.name ∈ wAll) (hw3 : Cond.initialized "java/lang/Math" ∈ wAll) (hw4 : Cond.code Lib.Math.min.name Lib.Math.min.code 2 (some .int) ∈ wAll) (hr : 1 ≤ R.frames ∧ (st.map fun v => v.category).sum + 13 ≤ R.locals ∧ cells ≤ R.cells ∧ slots ≤ R.slots) (hd : decode cc pc = .ok (.invokestatic index, 3)) (kk : GW p l e R s m args below meth c Q nL D A n ad cz ρ cells slots (pc + 3) ls (.int (if y < x then y else x) :: st)) : GW p l e R s m args below meth c Q nL D A n ad cz ρ cells slots pc ls (.int y :: .int x :: st) := fun H locs la hP hD hS hl => va_mmin X.1.1 X.1.2.1 (X.1.2.2.1.trans hl.1.symm) X.1.2.2.2.1 (X.1.2.2.2.2 _ (X.2.2.2.1 _ hw1)) (X.1.2.2.2.2 _ (X.2.2.2.1 _ hw2)) (X.1.2.2.2.2 _ (X.2.2.2.1 _ hw3)) (X.1.2.2.2.2 _ (X.2.2.2.1 _ hw4)) hr.1 hr.2.1 hr.2.2.1 hr.2.2.2 hd (kk H locs la hP hD hS hl)
theorem g_mmax (X : gX p m c cc nL s args Ts own D cy A) {x y : Int32} {index : Nat} (hw1 : Cond.methodLink own index Lib.Math.max.name ∈ wAll) (hw2 : Cond.static Lib.Math.max.name ∈ wAll) (hw3 : Cond.initialized "java/lang/Math" ∈ wAll) (hw4 : Cond.code Lib.Math.max.name Lib.Math.max.code 2 (some .int) ∈ wAll) (hr : 1 ≤ R.frames ∧ (st.map fun v => v.category).sum + 13 ≤ R.locals ∧ cells ≤ R.cells ∧ slots ≤ R.slots) (hd : decode cc pc = .ok (.invokestatic index, 3)) (kk : GW p l e R s m args below meth c Q nL D A n ad cz ρ cells slots (pc + 3) ls (.int (if x < y then y else x) :: st)) : GW p l e R s m args below meth c Q nL D A n ad cz ρ cells slots pc ls (.int y :: .int x :: st) := fun H locs la hP hD hS hl => va_mmax X.1.1 X.1.2.1 (X.1.2.2.1.trans hl.1.symm) X.1.2.2.2.1 (X.1.2.2.2.2 _ (X.2.2.2.1 _ hw1)) (X.1.2.2.2.2 _ (X.2.2.2.1 _ hw2)) (X.1.2.2.2.2 _ (X.2.2.2.1 _ hw3)) (X.1.2.2.2.2 _ (X.2.2.2.1 _ hw4)) hr.1 hr.2.1 hr.2.2.1 hr.2.2.2 hd (kk H locs la hP hD hS hl)
theorem g_mabs (X : gX p m c cc nL s args Ts own D cy A) {x : Int32} {index : Nat} (hw1 : Cond.methodLink own index Lib.Math.abs.name ∈ wAll) (hw2 : Cond.static Lib.Math.abs.name ∈ wAll) (hw3 : Cond.initialized "java/lang/Math" ∈ wAll) (hw4 : Cond.code Lib.Math.abs.name Lib.Math.abs.code 1 (some .int) ∈ wAll) (hr : 1 ≤ R.frames ∧ (st.map fun v => v.category).sum + 13 ≤ R.locals ∧ cells ≤ R.cells ∧ slots ≤ R.slots) (hd : decode cc pc = .ok (.invokestatic index, 3)) (kk : GW p l e R s m args below meth c Q nL D A n ad cz ρ cells slots (pc + 3) ls (.int (if 0 ≤ x then x else 0 - x) :: st)) : GW p l e R s m args below meth c Q nL D A n ad cz ρ cells slots pc ls (.int x :: st) := fun H locs la hP hD hS hl => va_mabs X.1.1 X.1.2.1 (X.1.2.2.1.trans hl.1.symm) X.1.2.2.2.1 (X.1.2.2.2.2 _ (X.2.2.2.1 _ hw1)) (X.1.2.2.2.2 _ (X.2.2.2.1 _ hw2)) (X.1.2.2.2.2 _ (X.2.2.2.1 _ hw3)) (X.1.2.2.2.2 _ (X.2.2.2.1 _ hw4)) hr.1 hr.2.1 hr.2.2.1 hr.2.2.2 hd (kk H locs la hP hD hS hl)
theorem g_alen (X : gX p m c cc nL s args Ts own D cy A) {len t0 : Nat} {cA : ClassId} {ty : FieldType} (k : Nat) (hk : k < n) (hF : gLn cz cA k len) (ht0 : (gT cy)[t0]? = some (cA, ty)) (hd : decode cc pc = .ok (.arraylength, 1)) (kk : GW p l e R s m args below meth c Q nL D A n ad cz ρ cells slots (pc + 1) ls (.int (nI len) :: st)) : GW p l e R s m args below meth c Q nL D A n ad cz ρ cells slots pc ls (.ref (ad k) :: st) := fun H locs la hP hD hS hl => by
  obtain ⟨y, h1⟩ := hF (ρ k)
  exact va_alen (x := (len, y)) X.1.1 X.1.2.1 X.2.1 hP k t0 ((gWl_get hk).trans (by rw [h1])) ht0 rfl hd (kk H locs la hP hD hS hl)
end GWS
end
section
/-! Contracts over a world by numbers -/
/-- a link to a method, with all that a call of it asks of the tables -/
def gLkV (own : String) (index : Nat) (C : String) (y : MethodName) (b : ByteArray) (nL : Nat) (ret : Option FieldType) (nA : Nat) : Prop := Cond.methodLink own index y ∈ wAll ∧ Cond.instanceMethod y ∈ wAll ∧ Cond.selects C y y ∈ wAll ∧ Cond.initialized C ∈ wAll ∧ Cond.code y b nL ret ∈ wAll ∧ y.cls = C ∧ y.cls ≠ "java/lang/invoke/MethodHandle" ∧ y.cls ≠ "java/lang/invoke/VarHandle" ∧ (parseMethodDescriptor y.desc).map (fun d => d.parameters.length) = some nA
def gLkS (own : String) (index : Nat) (y : MethodName) (b : ByteArray) (nL : Nat) (ret : Option FieldType) (nA : Nat) : Prop := Cond.methodLink own index y ∈ wAll ∧ Cond.static y ∈ wAll ∧ Cond.initialized y.cls ∈ wAll ∧ Cond.code y b nL ret ∈ wAll ∧ y.cls ≠ "java/lang/invoke/MethodHandle" ∧ y.cls ≠ "java/lang/invoke/VarHandle" ∧ (parseMethodDescriptor y.desc).map (fun d => d.parameters.length) = some nA
theorem gGood {Ts : List Cond} {y : MethodName} {b : ByteArray} {nL : Nat} {ret : Option FieldType} (hT : ∀ w ∈ wAll, w ∈ Ts) (hc : Cond.code y b nL ret ∈ wAll) : GoodIn Ts (Cond.code y b nL ret :: wAll) := fun w hw => by
  rcases List.mem_cons.mp hw with rfl | h
  · exact ⟨hT _ hc, good_of_word (wAll_good _ hc)⟩
  · exact ⟨hT _ h, good_of_word (wAll_good _ h)⟩
theorem gCwV {R : Room} {s : State} {args : Array Value} {own C : String} {index maxL mc ms n : Nat} {y : MethodName} {bytes : ByteArray} {ret : Option FieldType} {Ts : List Cond} {rm : Room} (ht : ∀ w ∈ Ts, w.before args s = true) (hT : ∀ w ∈ wAll, w ∈ Ts) (h : gLkV own index C y bytes maxL ret n) (hR : rm.cells = mc ∧ rm.slots = ms ∧ rm.frames + 1 ≤ R.frames ∧ 8 + (maxL + 11) + rm.locals ≤ R.locals) : CallW R s args own C index y bytes maxL ret (Cond.code y bytes maxL ret :: wAll) rm mc ms n := by
  obtain ⟨h1, h2, h3, h4, h5, h6⟩ := h
  refine cwV n ht (fun w hw => ?_) rfl hR.1 hR.2.1 h6 hR.2.2
  rcases List.mem_append.mp hw with hw | hw
  · have hm : w ∈ wAll := by
      simp only [List.mem_cons, List.not_mem_nil, or_false] at hw
      rcases hw with rfl | rfl | rfl | rfl
      · exact h1
      · exact h2
      · exact h3
      · exact h4
    exact ⟨hT _ hm, good_of_word (wAll_good _ hm)⟩
  · exact gGood hT h5 w hw
theorem gCwS {R : Room} {s : State} {args : Array Value} {own : String} {index maxL mc ms n : Nat} {y : MethodName} {bytes : ByteArray} {ret : Option FieldType} {Ts : List Cond} {rm : Room} (ht : ∀ w ∈ Ts, w.before args s = true) (hT : ∀ w ∈ wAll, w ∈ Ts) (h : gLkS own index y bytes maxL ret n) (hR : rm.cells = mc ∧ rm.slots = ms ∧ rm.frames + 1 ≤ R.frames ∧ 8 + (maxL + 11) + rm.locals ≤ R.locals) : CallB R s args own index y bytes maxL ret (Cond.code y bytes maxL ret :: wAll) rm mc ms n ∧ (Cond.static y).before args s = true := by
  obtain ⟨h1, h3, h4, h5, h6⟩ := h
  exact ⟨callB_of n ht (gGood hT h5) rfl hR.1 hR.2.1 (ht _ (hT _ h4)) (ht _ (hT _ h1)) h6 hR.2.2, ht _ (hT _ h3)⟩
theorem gCwN {R : Room} {s : State} {args : Array Value} {own host : String} {index maxL mc ms n : Nat} {y : MethodName} {bytes : ByteArray} {ret : Option FieldType} {Ts : List Cond} {rm : Room} (ht : ∀ w ∈ Ts, w.before args s = true) (hT : ∀ w ∈ wAll, w ∈ Ts) (hN : gNst s) (hl : Cond.methodLinkNest own index y host ∈ gNsw) (h4 : Cond.initialized y.cls ∈ wAll) (h5 : Cond.code y bytes maxL ret ∈ wAll) (h6 : y.cls ≠ "java/lang/invoke/MethodHandle" ∧ y.cls ≠ "java/lang/invoke/VarHandle" ∧ (parseMethodDescriptor y.desc).map (fun d => d.parameters.length) = some n) (hR : rm.cells = mc ∧ rm.slots = ms ∧ rm.frames + 1 ≤ R.frames ∧ 8 + (maxL + 11) + rm.locals ≤ R.locals) : va_CN R s args own index y host bytes maxL ret (Cond.code y bytes maxL ret :: wAll) rm mc ms n := va_cnB n ht (gGood hT h5) rfl hR.1 hR.2.1 (hN _ hl) (ht _ (hT _ h4)) h6 hR.2.2
def gPc (D : va_G) (cy : Nat → ClassId) (n : Nat) (ad : Nat → Nat) (cz : Nat → (Nat → Int32) → va_E) (ρ : Nat → Nat → Int32) (argv : List Value) (sz : Nat) : Array Value → State → Prop := va_Pc argv (fun U => U.heap.size = sz ∧ va_P D vwCl (gWl n ad cz ρ) U.heap ∧ va_K D vwCl (gT cy) U ∧ gInj n ad ∧ gNst U)
/-- the strings that the class throws with -/
def gStr : List (String × Nat × String) := [("StreetOrgans", 46, "there are 6 tunes"), ("StreetOrgans", 61, "the tune has 16 notes"), ("StreetOrgans", 69, "no such place"), ("StreetOrgans", 77, "listeners is not 0 to 90"), ("StreetOrgans", 86, "there are 8 streets"), ("StreetOrgans", 97, "weekday is not 0 to 6"), ("StreetOrgans", 99, "damp is not 0 to 5"), ("StreetOrgans", 101, "the tune has no notes"), ("StreetOrgans", 131, "by is not -120 to 120"), ("StreetOrgans", 140, "there are less than 4 coins"), ("StreetOrgans", 151, "what is not 0 to 4"), ("StreetOrgans", 161, "what is not 0 to 8"), ("StreetOrgans", 179, "what is not 5 to 7"), ("StreetOrgans", 200, "no such tune"), ("StreetOrgans", 202, "no such street"), ("StreetOrgans", 204, "pipe is not 0 to 11"), ("StreetOrgans", 206, "permits is not a set of weekdays"), ("StreetOrgans", 208, "nights is not 1 to 60")]
/-- the words of a throw that aren't kept of themselves -/
def gEnv (U : State) (A : Nat → Prop) : Prop := vx_Zq Bundle.tN "UNASSIGNED_STACK" Bundle.steD A U U.heap ∧ vx_Zq Bundle.tN "SUPPRESSED_SENTINEL" Bundle.listD A U U.heap ∧ ∀ q ∈ gStr, ∃ a, vk_R q.1 q.2.1 q.2.2 a U
def gPx (D : va_G) (cy : Nat → ClassId) (n : Nat) (ad : Nat → Nat) (cz : Nat → (Nat → Int32) → va_E) (ρ : Nat → Nat → Int32) (argv : List Value) (sz : Nat) : Array Value → State → Prop := va_Pc argv (fun U => U.heap.size = sz ∧ va_P D vwCl (gWl n ad cz ρ) U.heap ∧ va_K D vwCl (gT cy) U ∧ gInj n ad ∧ gNst U ∧ gEnv U (gA n ad sz))
theorem gPc_blind {D : va_G} {cy : Nat → ClassId} {n : Nat} {ad : Nat → Nat} {cz : Nat → (Nat → Int32) → va_E} {ρ : Nat → Nat → Int32} {argv : List Value} {sz : Nat} : FrameBlind (gPc D cy n ad cz ρ argv sz) := fun a U g mk q => by
  obtain ⟨q0, q1, q2, q3, q4, q6⟩ := q
  exact ⟨q0, q1, q2, va_K.moved (u := U) (U := U.calling g mk a) (Vm.Alike.refl U.vm) q3, q4, gNst_same (u := U) (U := U.calling g mk a) rfl q6⟩
theorem gEnv_same {U V : State} {A : Nat → Prop} (hv : V.vm = U.vm) (hh : V.heap = U.heap) (h : gEnv U A) : gEnv V A := by
  obtain ⟨h1, h2, h3⟩ := h
  have hA : U.vm.Alike V.vm := by rw [hv]; exact Vm.Alike.refl U.vm
  refine ⟨by rw [hh]; exact vx_Zq.moved hA h1, by rw [hh]; exact vx_Zq.moved hA h2, fun q hq => ?_⟩
  obtain ⟨a, ha⟩ := h3 q hq
  exact ⟨a, vk_R.same hv ha⟩
theorem gPx_blind {D : va_G} {cy : Nat → ClassId} {n : Nat} {ad : Nat → Nat} {cz : Nat → (Nat → Int32) → va_E} {ρ : Nat → Nat → Int32} {argv : List Value} {sz : Nat} : FrameBlind (gPx D cy n ad cz ρ argv sz) := fun a U g mk q => by
  obtain ⟨q0, q1, q2, q3, q4, q6, q5⟩ := q
  exact ⟨q0, q1, q2, va_K.moved (u := U) (U := U.calling g mk a) (Vm.Alike.refl U.vm) q3, q4, gNst_same (u := U) (U := U.calling g mk a) rfl q6, gEnv_same (U := U) (V := U.calling g mk a) rfl rfl q5⟩
/-- the environment at a call -/
theorem gEnv_at {s U : State} {A B : Nat → Prop} {H : Heap} {locs : List Loc} (h : gEnv s A) (hW : s.WarmedH U.vm) (hU : U.heap = H) (hS : va_S A s.heap H locs) (hAB : ∀ q, B q → A q) : gEnv U B := by
  obtain ⟨h1, h2, h3⟩ := h
  refine ⟨?_, ?_, fun q hq => ?_⟩
  · rw [hU]; exact ((vx_Zq.moved hW.alike h1).kept hS.2.1).narrow hAB
  · rw [hU]; exact ((vx_Zq.moved hW.alike h2).kept hS.2.1).narrow hAB
  · obtain ⟨a, ha⟩ := h3 q hq
    exact ⟨a, vk_R.warm hW ha⟩
theorem gA_sub {n off n' : Nat} {ad ad' : Nat → Nat} {cz cz' : Nat → (Nat → Int32) → va_E} {ρ : Nat → Nat → Int32} {A : Nat → Prop} {H0 H : Heap} {locs : List Loc} (hs : gSub n ad cz off n' ad' cz') (hD : va_D A (gWl n ad cz ρ)) (hS : va_S A H0 H locs) (hA : ∀ q, H0.size ≤ q → A q) : ∀ q, gA n' ad' H.size q → A q := by
  rintro q (⟨j, hj, rfl⟩ | h)
  · rw [(hs.2 j hj).1]
    exact gD_in hD (by have := hs.1; omega)
  · exact hA q (Nat.le_trans hS.1 h)
abbrev gB (D : va_G) (n : Nat) (ad : Nat → Nat) (cz : Nat → (Nat → Int32) → va_E) : (Nat → Nat → Int32) → State → Prop := fun ρ1 t => va_P D vwCl (gWl n ad cz ρ1) t.heap
abbrev gXC (D : va_G) (n : Nat) (ad : Nat → Nat) (cz : Nat → (Nat → Int32) → va_E) (ρ : Nat → Nat → Int32) (xp : String → Prop) (A : Nat → Prop) : String → State → State → Prop := vx_X (fun _ : Unit => True) (fun E _ t => xp E ∧ va_P D vwCl (gWl n ad cz ρ) t.heap) A
def gMI (l : Launch) (y : MethodName) (b : ByteArray) (nL : Nat) (ret : Option FieldType) (rm : Room) (D : va_G) (cy : Nat → ClassId) (n : Nat) (ad : Nat → Nat) (cz : Nat → (Nat → Int32) → va_E) (argv : List Value) (ρ : Nat → Nat → Int32) (post : Int32 → (Nat → Nat → Int32) → Prop) (mc ms : Nat) : Prop := ∀ sz : Nat, Met l y (Cond.code y b nL ret :: wAll) rm (gPc D cy n ad cz ρ argv sz) (va_Qi post (gB D n ad cz) (gA n ad sz)) mc ms (gA n ad sz)
def gMV (l : Launch) (y : MethodName) (b : ByteArray) (nL : Nat) (ret : Option FieldType) (rm : Room) (D : va_G) (cy : Nat → ClassId) (n : Nat) (ad : Nat → Nat) (cz : Nat → (Nat → Int32) → va_E) (argv : List Value) (ρ : Nat → Nat → Int32) (post : (Nat → Nat → Int32) → Prop) (mc ms : Nat) : Prop := ∀ sz : Nat, Met l y (Cond.code y b nL ret :: wAll) rm (gPc D cy n ad cz ρ argv sz) (va_Qv post (gB D n ad cz) (gA n ad sz)) mc ms (gA n ad sz)
def gML (l : Launch) (y : MethodName) (b : ByteArray) (nL : Nat) (ret : Option FieldType) (rm : Room) (D : va_G) (cy : Nat → ClassId) (n : Nat) (ad : Nat → Nat) (cz : Nat → (Nat → Int32) → va_E) (argv : List Value) (ρ : Nat → Nat → Int32) (post : Int64 → (Nat → Nat → Int32) → Prop) (mc ms : Nat) : Prop := ∀ sz : Nat, Met l y (Cond.code y b nL ret :: wAll) rm (gPc D cy n ad cz ρ argv sz) (va_Ql post (gB D n ad cz) (gA n ad sz)) mc ms (gA n ad sz)
def gMD (l : Launch) (y : MethodName) (b : ByteArray) (nL : Nat) (ret : Option FieldType) (rm : Room) (D : va_G) (cy : Nat → ClassId) (n : Nat) (ad : Nat → Nat) (cz : Nat → (Nat → Int32) → va_E) (argv : List Value) (ρ : Nat → Nat → Int32) (post : UInt64 → (Nat → Nat → Int32) → Prop) (mc ms : Nat) : Prop := ∀ sz : Nat, Met l y (Cond.code y b nL ret :: wAll) rm (gPc D cy n ad cz ρ argv sz) (va_Qd post (gB D n ad cz) (gA n ad sz)) mc ms (gA n ad sz)
def gXI (l : Launch) (y : MethodName) (b : ByteArray) (nL : Nat) (ret : Option FieldType) (rm : Room) (D : va_G) (cy : Nat → ClassId) (n : Nat) (ad : Nat → Nat) (cz : Nat → (Nat → Int32) → va_E) (argv : List Value) (ρ : Nat → Nat → Int32) (post : Int32 → (Nat → Nat → Int32) → Prop) (xp : String → Prop) (mc ms : Nat) : Prop := ∀ sz : Nat, vx_Met l y (Cond.code y b nL ret :: wAll) rm (gPx D cy n ad cz ρ argv sz) (va_Qi post (gB D n ad cz) (gA n ad sz)) (gXC D n ad cz ρ xp (gA n ad sz)) mc ms (gA n ad sz)
def gXV (l : Launch) (y : MethodName) (b : ByteArray) (nL : Nat) (ret : Option FieldType) (rm : Room) (D : va_G) (cy : Nat → ClassId) (n : Nat) (ad : Nat → Nat) (cz : Nat → (Nat → Int32) → va_E) (argv : List Value) (ρ : Nat → Nat → Int32) (post : (Nat → Nat → Int32) → Prop) (xp : String → Prop) (mc ms : Nat) : Prop := ∀ sz : Nat, vx_Met l y (Cond.code y b nL ret :: wAll) rm (gPx D cy n ad cz ρ argv sz) (va_Qv post (gB D n ad cz) (gA n ad sz)) (gXC D n ad cz ρ xp (gA n ad sz)) mc ms (gA n ad sz)
section GMS
variable {p : Program} {l : Launch} {e : Env} {R : Room} {s : State} {m : MethodId} {args : Array Value} {below : List Frame} {meth : Method} {c : Code} {Q : State → Prop}
variable {cc : ByteArray} {nL : Nat} {Ts : List Cond} {own : String} {D : va_G} {cy : Nat → ClassId} {A : Nat → Prop}
variable {n : Nat} {ad : Nat → Nat} {cz : Nat → (Nat → Int32) → va_E} {ρ : Nat → Nat → Int32} {cells slots pc : Nat} {ls ls' : List (Nat × Value)} {st st0 rest : List Value}
variable {y : MethodName} {ws ws' : List Cond} {rm : Room} {bytes : ByteArray} {maxL nA index mc ms : Nat} {ret : Option FieldType} {C : String} {T : u_T} {N ci : Nat} {As : List Value}
variable {n' : Nat} {ad' : Nat → Nat} {cz' : Nat → (Nat → Int32) → va_E}
theorem gBack_all {ρ ρ1 : Nat → Nat → Int32} {k : Nat} (h : k < n) : gBack ρ 0 n ρ1 k = ρ1 k := by
  simp only [gBack]
  rw [if_pos ⟨Nat.zero_le _, by omega⟩, Nat.sub_zero]
theorem gOff0 (ρ : Nat → Nat → Int32) : (fun j => ρ (0 + j)) = ρ := by funext j; rw [Nat.zero_add]
theorem g_mcallVi_at (X : gX p m c cc nL s args Ts own D cy A) {post : Int32 → (Nat → Nat → Int32) → Prop} (k0 : Nat) (off : Nat) (hM : gMI l y bytes maxL ret rm D cy n' ad' cz' (.ref (ad k0) :: As) (fun j => ρ (off + j)) post mc ms) (hL : gLkV own index C y bytes maxL ret nA) (hR : rm.cells = mc ∧ rm.slots = ms ∧ rm.frames + 1 ≤ R.frames ∧ 8 + (maxL + 11) + rm.locals ≤ R.locals) (hs : gSub n ad cz off n' ad' cz') (hk0 : k0 < n) (hO : gOb cz k0 ci) (hc : vwCl[ci]? = some (C, T, N)) (hn : As.length = nA) (hst : st0 = As.reverse ++ .ref (ad k0) :: rest) (hcat : (rest.map fun v => v.category).sum ≤ 8) (hd : decode cc pc = .ok (.invokevirtual index, 3)) (hroom : cells + mc ≤ R.cells ∧ slots + ms ≤ R.slots) (kk : ∀ (r : Int32) (ρ1 : Nat → Nat → Int32), post r ρ1 → GW p l e R s m args below meth c Q nL D A n ad cz (gBack ρ off n' ρ1) (cells + mc) (slots + ms) (pc + 3) ls (.int r :: rest)) : GW p l e R s m args below meth c Q nL D A n ad cz ρ cells slots pc ls st0 := by
  intro H locs la hP hD hS hl
  have hfree := gA_sub hs hD hS X.2.2.1
  obtain ⟨fs9, hfs9⟩ := hO (ρ k0)
  exact va_calli (va_runV X.1 (hM H.size) (gCwV X.1.2.2.2.2 X.2.2.2.1 hL hR) ⟨gPc_blind, va_recv X.2.1 hP hc ((gWl_get hk0).trans (by rw [hfs9])), fun U hU hW => ⟨rfl, by rw [hU], by rw [hU]; exact gP_sub hs hP, va_K.moved hW.alike X.2.1, gInj_sub hs (gD_inj hD), gNst_warm hW X.2.2.2.2⟩⟩ rfl hn hl.1 hst (lv_room hcat) hd hroom) hS (fun q _ h => hfree q h) hfree (fun r ρ1 t H1 locs1 ht hvm hw hB hz1 hk1 hS1 => kk r ρ1 hw H1 locs1 la (gP_back hs (gD_inj hD) hP hk1 (ht ▸ hB)) (gD_of (gD_inj hD) (fun _ hk => gD_in hD hk)) hS1 hl)
theorem g_mcallVi (X : gX p m c cc nL s args Ts own D cy A) {post : Int32 → (Nat → Nat → Int32) → Prop} (k0 : Nat) (hM : gMI l y bytes maxL ret rm D cy n ad cz (.ref (ad k0) :: As) ρ post mc ms) (hL : gLkV own index C y bytes maxL ret nA) (hR : rm.cells = mc ∧ rm.slots = ms ∧ rm.frames + 1 ≤ R.frames ∧ 8 + (maxL + 11) + rm.locals ≤ R.locals) (hk0 : k0 < n) (hO : gOb cz k0 ci) (hc : vwCl[ci]? = some (C, T, N)) (hn : As.length = nA) (hst : st0 = As.reverse ++ .ref (ad k0) :: rest) (hcat : (rest.map fun v => v.category).sum ≤ 8) (hd : decode cc pc = .ok (.invokevirtual index, 3)) (hroom : cells + mc ≤ R.cells ∧ slots + ms ≤ R.slots) (kk : ∀ (r : Int32) (ρ1 : Nat → Nat → Int32), post r ρ1 → GW p l e R s m args below meth c Q nL D A n ad cz ρ1 (cells + mc) (slots + ms) (pc + 3) ls (.int r :: rest)) : GW p l e R s m args below meth c Q nL D A n ad cz ρ cells slots pc ls st0 := g_mcallVi_at X k0 0 (by rw [gOff0]; exact hM) hL hR gSub_self hk0 hO hc hn hst hcat hd hroom (fun r ρ1 hw => g_congr (fun k hk => by rw [gBack_all hk]) (kk r ρ1 hw))
theorem g_mcallVv_at (X : gX p m c cc nL s args Ts own D cy A) {post : (Nat → Nat → Int32) → Prop} (k0 : Nat) (off : Nat) (hM : gMV l y bytes maxL ret rm D cy n' ad' cz' (.ref (ad k0) :: As) (fun j => ρ (off + j)) post mc ms) (hL : gLkV own index C y bytes maxL ret nA) (hR : rm.cells = mc ∧ rm.slots = ms ∧ rm.frames + 1 ≤ R.frames ∧ 8 + (maxL + 11) + rm.locals ≤ R.locals) (hs : gSub n ad cz off n' ad' cz') (hk0 : k0 < n) (hO : gOb cz k0 ci) (hc : vwCl[ci]? = some (C, T, N)) (hn : As.length = nA) (hst : st0 = As.reverse ++ .ref (ad k0) :: rest) (hcat : (rest.map fun v => v.category).sum ≤ 8) (hd : decode cc pc = .ok (.invokevirtual index, 3)) (hroom : cells + mc ≤ R.cells ∧ slots + ms ≤ R.slots) (kk : ∀ (ρ1 : Nat → Nat → Int32), post ρ1 → GW p l e R s m args below meth c Q nL D A n ad cz (gBack ρ off n' ρ1) (cells + mc) (slots + ms) (pc + 3) ls rest) : GW p l e R s m args below meth c Q nL D A n ad cz ρ cells slots pc ls st0 := by
  intro H locs la hP hD hS hl
  have hfree := gA_sub hs hD hS X.2.2.1
  obtain ⟨fs9, hfs9⟩ := hO (ρ k0)
  exact va_callv (va_runV X.1 (hM H.size) (gCwV X.1.2.2.2.2 X.2.2.2.1 hL hR) ⟨gPc_blind, va_recv X.2.1 hP hc ((gWl_get hk0).trans (by rw [hfs9])), fun U hU hW => ⟨rfl, by rw [hU], by rw [hU]; exact gP_sub hs hP, va_K.moved hW.alike X.2.1, gInj_sub hs (gD_inj hD), gNst_warm hW X.2.2.2.2⟩⟩ rfl hn hl.1 hst (lv_room hcat) hd hroom) hS (fun q _ h => hfree q h) hfree (fun ρ1 t H1 locs1 ht hvm hw hB hz1 hk1 hS1 => kk ρ1 hw H1 locs1 la (gP_back hs (gD_inj hD) hP hk1 (ht ▸ hB)) (gD_of (gD_inj hD) (fun _ hk => gD_in hD hk)) hS1 hl)
theorem g_mcallVv (X : gX p m c cc nL s args Ts own D cy A) {post : (Nat → Nat → Int32) → Prop} (k0 : Nat) (hM : gMV l y bytes maxL ret rm D cy n ad cz (.ref (ad k0) :: As) ρ post mc ms) (hL : gLkV own index C y bytes maxL ret nA) (hR : rm.cells = mc ∧ rm.slots = ms ∧ rm.frames + 1 ≤ R.frames ∧ 8 + (maxL + 11) + rm.locals ≤ R.locals) (hk0 : k0 < n) (hO : gOb cz k0 ci) (hc : vwCl[ci]? = some (C, T, N)) (hn : As.length = nA) (hst : st0 = As.reverse ++ .ref (ad k0) :: rest) (hcat : (rest.map fun v => v.category).sum ≤ 8) (hd : decode cc pc = .ok (.invokevirtual index, 3)) (hroom : cells + mc ≤ R.cells ∧ slots + ms ≤ R.slots) (kk : ∀ (ρ1 : Nat → Nat → Int32), post ρ1 → GW p l e R s m args below meth c Q nL D A n ad cz ρ1 (cells + mc) (slots + ms) (pc + 3) ls rest) : GW p l e R s m args below meth c Q nL D A n ad cz ρ cells slots pc ls st0 := g_mcallVv_at X k0 0 (by rw [gOff0]; exact hM) hL hR gSub_self hk0 hO hc hn hst hcat hd hroom (fun ρ1 hw => g_congr (fun k hk => by rw [gBack_all hk]) (kk ρ1 hw))
theorem g_mcallVl_at (X : gX p m c cc nL s args Ts own D cy A) {post : Int64 → (Nat → Nat → Int32) → Prop} (k0 : Nat) (off : Nat) (hM : gML l y bytes maxL ret rm D cy n' ad' cz' (.ref (ad k0) :: As) (fun j => ρ (off + j)) post mc ms) (hL : gLkV own index C y bytes maxL ret nA) (hR : rm.cells = mc ∧ rm.slots = ms ∧ rm.frames + 1 ≤ R.frames ∧ 8 + (maxL + 11) + rm.locals ≤ R.locals) (hs : gSub n ad cz off n' ad' cz') (hk0 : k0 < n) (hO : gOb cz k0 ci) (hc : vwCl[ci]? = some (C, T, N)) (hn : As.length = nA) (hst : st0 = As.reverse ++ .ref (ad k0) :: rest) (hcat : (rest.map fun v => v.category).sum ≤ 8) (hd : decode cc pc = .ok (.invokevirtual index, 3)) (hroom : cells + mc ≤ R.cells ∧ slots + ms ≤ R.slots) (kk : ∀ (r : Int64) (ρ1 : Nat → Nat → Int32), post r ρ1 → GW p l e R s m args below meth c Q nL D A n ad cz (gBack ρ off n' ρ1) (cells + mc) (slots + ms) (pc + 3) ls (.long r :: rest)) : GW p l e R s m args below meth c Q nL D A n ad cz ρ cells slots pc ls st0 := by
  intro H locs la hP hD hS hl
  have hfree := gA_sub hs hD hS X.2.2.1
  obtain ⟨fs9, hfs9⟩ := hO (ρ k0)
  exact va_calll (va_runV X.1 (hM H.size) (gCwV X.1.2.2.2.2 X.2.2.2.1 hL hR) ⟨gPc_blind, va_recv X.2.1 hP hc ((gWl_get hk0).trans (by rw [hfs9])), fun U hU hW => ⟨rfl, by rw [hU], by rw [hU]; exact gP_sub hs hP, va_K.moved hW.alike X.2.1, gInj_sub hs (gD_inj hD), gNst_warm hW X.2.2.2.2⟩⟩ rfl hn hl.1 hst (lv_room hcat) hd hroom) hS (fun q _ h => hfree q h) hfree (fun r ρ1 t H1 locs1 ht hvm hw hB hz1 hk1 hS1 => kk r ρ1 hw H1 locs1 la (gP_back hs (gD_inj hD) hP hk1 (ht ▸ hB)) (gD_of (gD_inj hD) (fun _ hk => gD_in hD hk)) hS1 hl)
theorem g_mcallVl (X : gX p m c cc nL s args Ts own D cy A) {post : Int64 → (Nat → Nat → Int32) → Prop} (k0 : Nat) (hM : gML l y bytes maxL ret rm D cy n ad cz (.ref (ad k0) :: As) ρ post mc ms) (hL : gLkV own index C y bytes maxL ret nA) (hR : rm.cells = mc ∧ rm.slots = ms ∧ rm.frames + 1 ≤ R.frames ∧ 8 + (maxL + 11) + rm.locals ≤ R.locals) (hk0 : k0 < n) (hO : gOb cz k0 ci) (hc : vwCl[ci]? = some (C, T, N)) (hn : As.length = nA) (hst : st0 = As.reverse ++ .ref (ad k0) :: rest) (hcat : (rest.map fun v => v.category).sum ≤ 8) (hd : decode cc pc = .ok (.invokevirtual index, 3)) (hroom : cells + mc ≤ R.cells ∧ slots + ms ≤ R.slots) (kk : ∀ (r : Int64) (ρ1 : Nat → Nat → Int32), post r ρ1 → GW p l e R s m args below meth c Q nL D A n ad cz ρ1 (cells + mc) (slots + ms) (pc + 3) ls (.long r :: rest)) : GW p l e R s m args below meth c Q nL D A n ad cz ρ cells slots pc ls st0 := g_mcallVl_at X k0 0 (by rw [gOff0]; exact hM) hL hR gSub_self hk0 hO hc hn hst hcat hd hroom (fun r ρ1 hw => g_congr (fun k hk => by rw [gBack_all hk]) (kk r ρ1 hw))
theorem g_mcallVd_at (X : gX p m c cc nL s args Ts own D cy A) {post : UInt64 → (Nat → Nat → Int32) → Prop} (k0 : Nat) (off : Nat) (hM : gMD l y bytes maxL ret rm D cy n' ad' cz' (.ref (ad k0) :: As) (fun j => ρ (off + j)) post mc ms) (hL : gLkV own index C y bytes maxL ret nA) (hR : rm.cells = mc ∧ rm.slots = ms ∧ rm.frames + 1 ≤ R.frames ∧ 8 + (maxL + 11) + rm.locals ≤ R.locals) (hs : gSub n ad cz off n' ad' cz') (hk0 : k0 < n) (hO : gOb cz k0 ci) (hc : vwCl[ci]? = some (C, T, N)) (hn : As.length = nA) (hst : st0 = As.reverse ++ .ref (ad k0) :: rest) (hcat : (rest.map fun v => v.category).sum ≤ 8) (hd : decode cc pc = .ok (.invokevirtual index, 3)) (hroom : cells + mc ≤ R.cells ∧ slots + ms ≤ R.slots) (kk : ∀ (r : UInt64) (ρ1 : Nat → Nat → Int32), post r ρ1 → GW p l e R s m args below meth c Q nL D A n ad cz (gBack ρ off n' ρ1) (cells + mc) (slots + ms) (pc + 3) ls (.double r :: rest)) : GW p l e R s m args below meth c Q nL D A n ad cz ρ cells slots pc ls st0 := by
  intro H locs la hP hD hS hl
  have hfree := gA_sub hs hD hS X.2.2.1
  obtain ⟨fs9, hfs9⟩ := hO (ρ k0)
  exact va_calld (va_runV X.1 (hM H.size) (gCwV X.1.2.2.2.2 X.2.2.2.1 hL hR) ⟨gPc_blind, va_recv X.2.1 hP hc ((gWl_get hk0).trans (by rw [hfs9])), fun U hU hW => ⟨rfl, by rw [hU], by rw [hU]; exact gP_sub hs hP, va_K.moved hW.alike X.2.1, gInj_sub hs (gD_inj hD), gNst_warm hW X.2.2.2.2⟩⟩ rfl hn hl.1 hst (lv_room hcat) hd hroom) hS (fun q _ h => hfree q h) hfree (fun r ρ1 t H1 locs1 ht hvm hw hB hz1 hk1 hS1 => kk r ρ1 hw H1 locs1 la (gP_back hs (gD_inj hD) hP hk1 (ht ▸ hB)) (gD_of (gD_inj hD) (fun _ hk => gD_in hD hk)) hS1 hl)
theorem g_mcallVd (X : gX p m c cc nL s args Ts own D cy A) {post : UInt64 → (Nat → Nat → Int32) → Prop} (k0 : Nat) (hM : gMD l y bytes maxL ret rm D cy n ad cz (.ref (ad k0) :: As) ρ post mc ms) (hL : gLkV own index C y bytes maxL ret nA) (hR : rm.cells = mc ∧ rm.slots = ms ∧ rm.frames + 1 ≤ R.frames ∧ 8 + (maxL + 11) + rm.locals ≤ R.locals) (hk0 : k0 < n) (hO : gOb cz k0 ci) (hc : vwCl[ci]? = some (C, T, N)) (hn : As.length = nA) (hst : st0 = As.reverse ++ .ref (ad k0) :: rest) (hcat : (rest.map fun v => v.category).sum ≤ 8) (hd : decode cc pc = .ok (.invokevirtual index, 3)) (hroom : cells + mc ≤ R.cells ∧ slots + ms ≤ R.slots) (kk : ∀ (r : UInt64) (ρ1 : Nat → Nat → Int32), post r ρ1 → GW p l e R s m args below meth c Q nL D A n ad cz ρ1 (cells + mc) (slots + ms) (pc + 3) ls (.double r :: rest)) : GW p l e R s m args below meth c Q nL D A n ad cz ρ cells slots pc ls st0 := g_mcallVd_at X k0 0 (by rw [gOff0]; exact hM) hL hR gSub_self hk0 hO hc hn hst hcat hd hroom (fun r ρ1 hw => g_congr (fun k hk => by rw [gBack_all hk]) (kk r ρ1 hw))
theorem g_mcallSi_at (X : gX p m c cc nL s args Ts own D cy A) {post : Int32 → (Nat → Nat → Int32) → Prop} (off : Nat) (hM : gMI l y bytes maxL ret rm D cy n' ad' cz' As (fun j => ρ (off + j)) post mc ms) (hL : gLkS own index y bytes maxL ret nA) (hR : rm.cells = mc ∧ rm.slots = ms ∧ rm.frames + 1 ≤ R.frames ∧ 8 + (maxL + 11) + rm.locals ≤ R.locals) (hs : gSub n ad cz off n' ad' cz')  (hn : As.length = nA) (hst : st0 = As.reverse ++ rest) (hcat : (rest.map fun v => v.category).sum ≤ 8) (hd : decode cc pc = .ok (.invokestatic index, 3)) (hroom : cells + mc ≤ R.cells ∧ slots + ms ≤ R.slots) (kk : ∀ (r : Int32) (ρ1 : Nat → Nat → Int32), post r ρ1 → GW p l e R s m args below meth c Q nL D A n ad cz (gBack ρ off n' ρ1) (cells + mc) (slots + ms) (pc + 3) ls (.int r :: rest)) : GW p l e R s m args below meth c Q nL D A n ad cz ρ cells slots pc ls st0 := by
  intro H locs la hP hD hS hl
  have hfree := gA_sub hs hD hS X.2.2.1
  exact va_calli (va_runS X.1 (hM H.size) (gCwS X.1.2.2.2.2 X.2.2.2.1 hL hR) ⟨gPc_blind, fun U hU hW => ⟨rfl, by rw [hU], by rw [hU]; exact gP_sub hs hP, va_K.moved hW.alike X.2.1, gInj_sub hs (gD_inj hD), gNst_warm hW X.2.2.2.2⟩⟩ rfl hn hl.1 hst (lv_room hcat) hd hroom) hS (fun q _ h => hfree q h) hfree (fun r ρ1 t H1 locs1 ht hvm hw hB hz1 hk1 hS1 => kk r ρ1 hw H1 locs1 la (gP_back hs (gD_inj hD) hP hk1 (ht ▸ hB)) (gD_of (gD_inj hD) (fun _ hk => gD_in hD hk)) hS1 hl)
theorem g_mcallSi (X : gX p m c cc nL s args Ts own D cy A) {post : Int32 → (Nat → Nat → Int32) → Prop} (hM : gMI l y bytes maxL ret rm D cy n ad cz As ρ post mc ms) (hL : gLkS own index y bytes maxL ret nA) (hR : rm.cells = mc ∧ rm.slots = ms ∧ rm.frames + 1 ≤ R.frames ∧ 8 + (maxL + 11) + rm.locals ≤ R.locals)  (hn : As.length = nA) (hst : st0 = As.reverse ++ rest) (hcat : (rest.map fun v => v.category).sum ≤ 8) (hd : decode cc pc = .ok (.invokestatic index, 3)) (hroom : cells + mc ≤ R.cells ∧ slots + ms ≤ R.slots) (kk : ∀ (r : Int32) (ρ1 : Nat → Nat → Int32), post r ρ1 → GW p l e R s m args below meth c Q nL D A n ad cz ρ1 (cells + mc) (slots + ms) (pc + 3) ls (.int r :: rest)) : GW p l e R s m args below meth c Q nL D A n ad cz ρ cells slots pc ls st0 := g_mcallSi_at X 0 (by rw [gOff0]; exact hM) hL hR gSub_self hn hst hcat hd hroom (fun r ρ1 hw => g_congr (fun k hk => by rw [gBack_all hk]) (kk r ρ1 hw))
theorem g_mcallSv_at (X : gX p m c cc nL s args Ts own D cy A) {post : (Nat → Nat → Int32) → Prop} (off : Nat) (hM : gMV l y bytes maxL ret rm D cy n' ad' cz' As (fun j => ρ (off + j)) post mc ms) (hL : gLkS own index y bytes maxL ret nA) (hR : rm.cells = mc ∧ rm.slots = ms ∧ rm.frames + 1 ≤ R.frames ∧ 8 + (maxL + 11) + rm.locals ≤ R.locals) (hs : gSub n ad cz off n' ad' cz')  (hn : As.length = nA) (hst : st0 = As.reverse ++ rest) (hcat : (rest.map fun v => v.category).sum ≤ 8) (hd : decode cc pc = .ok (.invokestatic index, 3)) (hroom : cells + mc ≤ R.cells ∧ slots + ms ≤ R.slots) (kk : ∀ (ρ1 : Nat → Nat → Int32), post ρ1 → GW p l e R s m args below meth c Q nL D A n ad cz (gBack ρ off n' ρ1) (cells + mc) (slots + ms) (pc + 3) ls rest) : GW p l e R s m args below meth c Q nL D A n ad cz ρ cells slots pc ls st0 := by
  intro H locs la hP hD hS hl
  have hfree := gA_sub hs hD hS X.2.2.1
  exact va_callv (va_runS X.1 (hM H.size) (gCwS X.1.2.2.2.2 X.2.2.2.1 hL hR) ⟨gPc_blind, fun U hU hW => ⟨rfl, by rw [hU], by rw [hU]; exact gP_sub hs hP, va_K.moved hW.alike X.2.1, gInj_sub hs (gD_inj hD), gNst_warm hW X.2.2.2.2⟩⟩ rfl hn hl.1 hst (lv_room hcat) hd hroom) hS (fun q _ h => hfree q h) hfree (fun ρ1 t H1 locs1 ht hvm hw hB hz1 hk1 hS1 => kk ρ1 hw H1 locs1 la (gP_back hs (gD_inj hD) hP hk1 (ht ▸ hB)) (gD_of (gD_inj hD) (fun _ hk => gD_in hD hk)) hS1 hl)
theorem g_mcallSv (X : gX p m c cc nL s args Ts own D cy A) {post : (Nat → Nat → Int32) → Prop} (hM : gMV l y bytes maxL ret rm D cy n ad cz As ρ post mc ms) (hL : gLkS own index y bytes maxL ret nA) (hR : rm.cells = mc ∧ rm.slots = ms ∧ rm.frames + 1 ≤ R.frames ∧ 8 + (maxL + 11) + rm.locals ≤ R.locals)  (hn : As.length = nA) (hst : st0 = As.reverse ++ rest) (hcat : (rest.map fun v => v.category).sum ≤ 8) (hd : decode cc pc = .ok (.invokestatic index, 3)) (hroom : cells + mc ≤ R.cells ∧ slots + ms ≤ R.slots) (kk : ∀ (ρ1 : Nat → Nat → Int32), post ρ1 → GW p l e R s m args below meth c Q nL D A n ad cz ρ1 (cells + mc) (slots + ms) (pc + 3) ls rest) : GW p l e R s m args below meth c Q nL D A n ad cz ρ cells slots pc ls st0 := g_mcallSv_at X 0 (by rw [gOff0]; exact hM) hL hR gSub_self hn hst hcat hd hroom (fun ρ1 hw => g_congr (fun k hk => by rw [gBack_all hk]) (kk ρ1 hw))
theorem g_mcallSl_at (X : gX p m c cc nL s args Ts own D cy A) {post : Int64 → (Nat → Nat → Int32) → Prop} (off : Nat) (hM : gML l y bytes maxL ret rm D cy n' ad' cz' As (fun j => ρ (off + j)) post mc ms) (hL : gLkS own index y bytes maxL ret nA) (hR : rm.cells = mc ∧ rm.slots = ms ∧ rm.frames + 1 ≤ R.frames ∧ 8 + (maxL + 11) + rm.locals ≤ R.locals) (hs : gSub n ad cz off n' ad' cz')  (hn : As.length = nA) (hst : st0 = As.reverse ++ rest) (hcat : (rest.map fun v => v.category).sum ≤ 8) (hd : decode cc pc = .ok (.invokestatic index, 3)) (hroom : cells + mc ≤ R.cells ∧ slots + ms ≤ R.slots) (kk : ∀ (r : Int64) (ρ1 : Nat → Nat → Int32), post r ρ1 → GW p l e R s m args below meth c Q nL D A n ad cz (gBack ρ off n' ρ1) (cells + mc) (slots + ms) (pc + 3) ls (.long r :: rest)) : GW p l e R s m args below meth c Q nL D A n ad cz ρ cells slots pc ls st0 := by
  intro H locs la hP hD hS hl
  have hfree := gA_sub hs hD hS X.2.2.1
  exact va_calll (va_runS X.1 (hM H.size) (gCwS X.1.2.2.2.2 X.2.2.2.1 hL hR) ⟨gPc_blind, fun U hU hW => ⟨rfl, by rw [hU], by rw [hU]; exact gP_sub hs hP, va_K.moved hW.alike X.2.1, gInj_sub hs (gD_inj hD), gNst_warm hW X.2.2.2.2⟩⟩ rfl hn hl.1 hst (lv_room hcat) hd hroom) hS (fun q _ h => hfree q h) hfree (fun r ρ1 t H1 locs1 ht hvm hw hB hz1 hk1 hS1 => kk r ρ1 hw H1 locs1 la (gP_back hs (gD_inj hD) hP hk1 (ht ▸ hB)) (gD_of (gD_inj hD) (fun _ hk => gD_in hD hk)) hS1 hl)
theorem g_mcallSl (X : gX p m c cc nL s args Ts own D cy A) {post : Int64 → (Nat → Nat → Int32) → Prop} (hM : gML l y bytes maxL ret rm D cy n ad cz As ρ post mc ms) (hL : gLkS own index y bytes maxL ret nA) (hR : rm.cells = mc ∧ rm.slots = ms ∧ rm.frames + 1 ≤ R.frames ∧ 8 + (maxL + 11) + rm.locals ≤ R.locals)  (hn : As.length = nA) (hst : st0 = As.reverse ++ rest) (hcat : (rest.map fun v => v.category).sum ≤ 8) (hd : decode cc pc = .ok (.invokestatic index, 3)) (hroom : cells + mc ≤ R.cells ∧ slots + ms ≤ R.slots) (kk : ∀ (r : Int64) (ρ1 : Nat → Nat → Int32), post r ρ1 → GW p l e R s m args below meth c Q nL D A n ad cz ρ1 (cells + mc) (slots + ms) (pc + 3) ls (.long r :: rest)) : GW p l e R s m args below meth c Q nL D A n ad cz ρ cells slots pc ls st0 := g_mcallSl_at X 0 (by rw [gOff0]; exact hM) hL hR gSub_self hn hst hcat hd hroom (fun r ρ1 hw => g_congr (fun k hk => by rw [gBack_all hk]) (kk r ρ1 hw))
theorem g_mcallSd_at (X : gX p m c cc nL s args Ts own D cy A) {post : UInt64 → (Nat → Nat → Int32) → Prop} (off : Nat) (hM : gMD l y bytes maxL ret rm D cy n' ad' cz' As (fun j => ρ (off + j)) post mc ms) (hL : gLkS own index y bytes maxL ret nA) (hR : rm.cells = mc ∧ rm.slots = ms ∧ rm.frames + 1 ≤ R.frames ∧ 8 + (maxL + 11) + rm.locals ≤ R.locals) (hs : gSub n ad cz off n' ad' cz')  (hn : As.length = nA) (hst : st0 = As.reverse ++ rest) (hcat : (rest.map fun v => v.category).sum ≤ 8) (hd : decode cc pc = .ok (.invokestatic index, 3)) (hroom : cells + mc ≤ R.cells ∧ slots + ms ≤ R.slots) (kk : ∀ (r : UInt64) (ρ1 : Nat → Nat → Int32), post r ρ1 → GW p l e R s m args below meth c Q nL D A n ad cz (gBack ρ off n' ρ1) (cells + mc) (slots + ms) (pc + 3) ls (.double r :: rest)) : GW p l e R s m args below meth c Q nL D A n ad cz ρ cells slots pc ls st0 := by
  intro H locs la hP hD hS hl
  have hfree := gA_sub hs hD hS X.2.2.1
  exact va_calld (va_runS X.1 (hM H.size) (gCwS X.1.2.2.2.2 X.2.2.2.1 hL hR) ⟨gPc_blind, fun U hU hW => ⟨rfl, by rw [hU], by rw [hU]; exact gP_sub hs hP, va_K.moved hW.alike X.2.1, gInj_sub hs (gD_inj hD), gNst_warm hW X.2.2.2.2⟩⟩ rfl hn hl.1 hst (lv_room hcat) hd hroom) hS (fun q _ h => hfree q h) hfree (fun r ρ1 t H1 locs1 ht hvm hw hB hz1 hk1 hS1 => kk r ρ1 hw H1 locs1 la (gP_back hs (gD_inj hD) hP hk1 (ht ▸ hB)) (gD_of (gD_inj hD) (fun _ hk => gD_in hD hk)) hS1 hl)
theorem g_mcallSd (X : gX p m c cc nL s args Ts own D cy A) {post : UInt64 → (Nat → Nat → Int32) → Prop} (hM : gMD l y bytes maxL ret rm D cy n ad cz As ρ post mc ms) (hL : gLkS own index y bytes maxL ret nA) (hR : rm.cells = mc ∧ rm.slots = ms ∧ rm.frames + 1 ≤ R.frames ∧ 8 + (maxL + 11) + rm.locals ≤ R.locals)  (hn : As.length = nA) (hst : st0 = As.reverse ++ rest) (hcat : (rest.map fun v => v.category).sum ≤ 8) (hd : decode cc pc = .ok (.invokestatic index, 3)) (hroom : cells + mc ≤ R.cells ∧ slots + ms ≤ R.slots) (kk : ∀ (r : UInt64) (ρ1 : Nat → Nat → Int32), post r ρ1 → GW p l e R s m args below meth c Q nL D A n ad cz ρ1 (cells + mc) (slots + ms) (pc + 3) ls (.double r :: rest)) : GW p l e R s m args below meth c Q nL D A n ad cz ρ cells slots pc ls st0 := g_mcallSd_at X 0 (by rw [gOff0]; exact hM) hL hR gSub_self hn hst hcat hd hroom (fun r ρ1 hw => g_congr (fun k hk => by rw [gBack_all hk]) (kk r ρ1 hw))
theorem g_xcallVi_at (X : gX p m c cc nL s args Ts own D cy A) (hE : gEnv s A) {xp : String → Prop} {post : Int32 → (Nat → Nat → Int32) → Prop} (k0 : Nat) (off : Nat) (hM : gXI l y bytes maxL ret rm D cy n' ad' cz' (.ref (ad k0) :: As) (fun j => ρ (off + j)) post xp mc ms) (hL : gLkV own index C y bytes maxL ret nA) (hR : rm.cells = mc ∧ rm.slots = ms ∧ rm.frames + 1 ≤ R.frames ∧ 8 + (maxL + 11) + rm.locals ≤ R.locals) (hs : gSub n ad cz off n' ad' cz') (hk0 : k0 < n) (hO : gOb cz k0 ci) (hc : vwCl[ci]? = some (C, T, N)) (hn : As.length = nA) (hst : st0 = As.reverse ++ .ref (ad k0) :: rest) (hcat : (rest.map fun v => v.category).sum ≤ 8) (hd : decode cc pc = .ok (.invokevirtual index, 3)) (hroom : cells + mc ≤ R.cells ∧ slots + ms ≤ R.slots) (kx : ∀ (E : String) (ce : Cell) (q9 : Addr) (H1 : Heap) (locs1 : List Loc) (la : Array Slot), xp E → va_P D vwCl (gWl n ad cz ρ) H1 → va_D A (gWl n ad cz ρ) → va_S A s.heap H1 locs1 → lv_has la nL ls → H1[q9]? = some ce → ce.vm = .none → s.vm.findClass E = some ce.cls → vx_W p l e R s m args below meth c H1 locs1 (cells + mc) (slots + ms) Q (F0 m pc la rest) q9) (kk : ∀ (r : Int32) (ρ1 : Nat → Nat → Int32), post r ρ1 → GW p l e R s m args below meth c Q nL D A n ad cz (gBack ρ off n' ρ1) (cells + mc) (slots + ms) (pc + 3) ls (.int r :: rest)) : GW p l e R s m args below meth c Q nL D A n ad cz ρ cells slots pc ls st0 := by
  intro H locs la hP hD hS hl
  have hfree := gA_sub hs hD hS X.2.2.1
  obtain ⟨fs9, hfs9⟩ := hO (ρ k0)
  exact vx_calli (vx_runV X.1 (hM H.size) (gCwV X.1.2.2.2.2 X.2.2.2.1 hL hR) ⟨gPx_blind, va_recv X.2.1 hP hc ((gWl_get hk0).trans (by rw [hfs9])), fun U hU hW => ⟨rfl, by rw [hU], by rw [hU]; exact gP_sub hs hP, va_K.moved hW.alike X.2.1, gInj_sub hs (gD_inj hD), gNst_warm hW X.2.2.2.2, gEnv_at hE hW hU hS hfree⟩⟩ rfl hn hl.1 hst (lv_room hcat) hd hroom) hS (fun q _ h => hfree q h) hfree (fun q _ h => hfree q h) (fun E ce q9 _ t H1 locs1 ht hvm _ hB hz1 hk1 hS1 hce hcv hcl => by
      have hP1 := gP_back hs (gD_inj hD) hP hk1 (ht ▸ hB.2)
      exact kx E ce q9 H1 locs1 la hB.1 (gP_congr (fun k _ => by simp only [gBack]; split <;> simp_all) hP1) (gD_of (gD_inj hD) (fun _ hk => gD_in hD hk)) hS1 hl hce hcv hcl) (fun r ρ1 t H1 locs1 ht hvm hw hB hz1 hk1 hS1 => kk r ρ1 hw H1 locs1 la (gP_back hs (gD_inj hD) hP hk1 (ht ▸ hB)) (gD_of (gD_inj hD) (fun _ hk => gD_in hD hk)) hS1 hl)
theorem g_xcallVi (X : gX p m c cc nL s args Ts own D cy A) (hE : gEnv s A) {xp : String → Prop} {post : Int32 → (Nat → Nat → Int32) → Prop} (k0 : Nat) (hM : gXI l y bytes maxL ret rm D cy n ad cz (.ref (ad k0) :: As) ρ post xp mc ms) (hL : gLkV own index C y bytes maxL ret nA) (hR : rm.cells = mc ∧ rm.slots = ms ∧ rm.frames + 1 ≤ R.frames ∧ 8 + (maxL + 11) + rm.locals ≤ R.locals) (hk0 : k0 < n) (hO : gOb cz k0 ci) (hc : vwCl[ci]? = some (C, T, N)) (hn : As.length = nA) (hst : st0 = As.reverse ++ .ref (ad k0) :: rest) (hcat : (rest.map fun v => v.category).sum ≤ 8) (hd : decode cc pc = .ok (.invokevirtual index, 3)) (hroom : cells + mc ≤ R.cells ∧ slots + ms ≤ R.slots) (kx : ∀ (E : String) (ce : Cell) (q9 : Addr) (H1 : Heap) (locs1 : List Loc) (la : Array Slot), xp E → va_P D vwCl (gWl n ad cz ρ) H1 → va_D A (gWl n ad cz ρ) → va_S A s.heap H1 locs1 → lv_has la nL ls → H1[q9]? = some ce → ce.vm = .none → s.vm.findClass E = some ce.cls → vx_W p l e R s m args below meth c H1 locs1 (cells + mc) (slots + ms) Q (F0 m pc la rest) q9) (kk : ∀ (r : Int32) (ρ1 : Nat → Nat → Int32), post r ρ1 → GW p l e R s m args below meth c Q nL D A n ad cz ρ1 (cells + mc) (slots + ms) (pc + 3) ls (.int r :: rest)) : GW p l e R s m args below meth c Q nL D A n ad cz ρ cells slots pc ls st0 := g_xcallVi_at X hE k0 0 (by rw [gOff0]; exact hM) hL hR gSub_self hk0 hO hc hn hst hcat hd hroom kx (fun r ρ1 hw => g_congr (fun k hk => by rw [gBack_all hk]) (kk r ρ1 hw))
theorem g_xcallVv_at (X : gX p m c cc nL s args Ts own D cy A) (hE : gEnv s A) {xp : String → Prop} {post : (Nat → Nat → Int32) → Prop} (k0 : Nat) (off : Nat) (hM : gXV l y bytes maxL ret rm D cy n' ad' cz' (.ref (ad k0) :: As) (fun j => ρ (off + j)) post xp mc ms) (hL : gLkV own index C y bytes maxL ret nA) (hR : rm.cells = mc ∧ rm.slots = ms ∧ rm.frames + 1 ≤ R.frames ∧ 8 + (maxL + 11) + rm.locals ≤ R.locals) (hs : gSub n ad cz off n' ad' cz') (hk0 : k0 < n) (hO : gOb cz k0 ci) (hc : vwCl[ci]? = some (C, T, N)) (hn : As.length = nA) (hst : st0 = As.reverse ++ .ref (ad k0) :: rest) (hcat : (rest.map fun v => v.category).sum ≤ 8) (hd : decode cc pc = .ok (.invokevirtual index, 3)) (hroom : cells + mc ≤ R.cells ∧ slots + ms ≤ R.slots) (kx : ∀ (E : String) (ce : Cell) (q9 : Addr) (H1 : Heap) (locs1 : List Loc) (la : Array Slot), xp E → va_P D vwCl (gWl n ad cz ρ) H1 → va_D A (gWl n ad cz ρ) → va_S A s.heap H1 locs1 → lv_has la nL ls → H1[q9]? = some ce → ce.vm = .none → s.vm.findClass E = some ce.cls → vx_W p l e R s m args below meth c H1 locs1 (cells + mc) (slots + ms) Q (F0 m pc la rest) q9) (kk : ∀ (ρ1 : Nat → Nat → Int32), post ρ1 → GW p l e R s m args below meth c Q nL D A n ad cz (gBack ρ off n' ρ1) (cells + mc) (slots + ms) (pc + 3) ls rest) : GW p l e R s m args below meth c Q nL D A n ad cz ρ cells slots pc ls st0 := by
  intro H locs la hP hD hS hl
  have hfree := gA_sub hs hD hS X.2.2.1
  obtain ⟨fs9, hfs9⟩ := hO (ρ k0)
  exact vx_callv (vx_runV X.1 (hM H.size) (gCwV X.1.2.2.2.2 X.2.2.2.1 hL hR) ⟨gPx_blind, va_recv X.2.1 hP hc ((gWl_get hk0).trans (by rw [hfs9])), fun U hU hW => ⟨rfl, by rw [hU], by rw [hU]; exact gP_sub hs hP, va_K.moved hW.alike X.2.1, gInj_sub hs (gD_inj hD), gNst_warm hW X.2.2.2.2, gEnv_at hE hW hU hS hfree⟩⟩ rfl hn hl.1 hst (lv_room hcat) hd hroom) hS (fun q _ h => hfree q h) hfree (fun q _ h => hfree q h) (fun E ce q9 _ t H1 locs1 ht hvm _ hB hz1 hk1 hS1 hce hcv hcl => by
      have hP1 := gP_back hs (gD_inj hD) hP hk1 (ht ▸ hB.2)
      exact kx E ce q9 H1 locs1 la hB.1 (gP_congr (fun k _ => by simp only [gBack]; split <;> simp_all) hP1) (gD_of (gD_inj hD) (fun _ hk => gD_in hD hk)) hS1 hl hce hcv hcl) (fun ρ1 t H1 locs1 ht hvm hw hB hz1 hk1 hS1 => kk ρ1 hw H1 locs1 la (gP_back hs (gD_inj hD) hP hk1 (ht ▸ hB)) (gD_of (gD_inj hD) (fun _ hk => gD_in hD hk)) hS1 hl)
theorem g_xcallVv (X : gX p m c cc nL s args Ts own D cy A) (hE : gEnv s A) {xp : String → Prop} {post : (Nat → Nat → Int32) → Prop} (k0 : Nat) (hM : gXV l y bytes maxL ret rm D cy n ad cz (.ref (ad k0) :: As) ρ post xp mc ms) (hL : gLkV own index C y bytes maxL ret nA) (hR : rm.cells = mc ∧ rm.slots = ms ∧ rm.frames + 1 ≤ R.frames ∧ 8 + (maxL + 11) + rm.locals ≤ R.locals) (hk0 : k0 < n) (hO : gOb cz k0 ci) (hc : vwCl[ci]? = some (C, T, N)) (hn : As.length = nA) (hst : st0 = As.reverse ++ .ref (ad k0) :: rest) (hcat : (rest.map fun v => v.category).sum ≤ 8) (hd : decode cc pc = .ok (.invokevirtual index, 3)) (hroom : cells + mc ≤ R.cells ∧ slots + ms ≤ R.slots) (kx : ∀ (E : String) (ce : Cell) (q9 : Addr) (H1 : Heap) (locs1 : List Loc) (la : Array Slot), xp E → va_P D vwCl (gWl n ad cz ρ) H1 → va_D A (gWl n ad cz ρ) → va_S A s.heap H1 locs1 → lv_has la nL ls → H1[q9]? = some ce → ce.vm = .none → s.vm.findClass E = some ce.cls → vx_W p l e R s m args below meth c H1 locs1 (cells + mc) (slots + ms) Q (F0 m pc la rest) q9) (kk : ∀ (ρ1 : Nat → Nat → Int32), post ρ1 → GW p l e R s m args below meth c Q nL D A n ad cz ρ1 (cells + mc) (slots + ms) (pc + 3) ls rest) : GW p l e R s m args below meth c Q nL D A n ad cz ρ cells slots pc ls st0 := g_xcallVv_at X hE k0 0 (by rw [gOff0]; exact hM) hL hR gSub_self hk0 hO hc hn hst hcat hd hroom kx (fun ρ1 hw => g_congr (fun k hk => by rw [gBack_all hk]) (kk ρ1 hw))
theorem g_xcallSi_at (X : gX p m c cc nL s args Ts own D cy A) (hE : gEnv s A) {xp : String → Prop} {post : Int32 → (Nat → Nat → Int32) → Prop} (off : Nat) (hM : gXI l y bytes maxL ret rm D cy n' ad' cz' As (fun j => ρ (off + j)) post xp mc ms) (hL : gLkS own index y bytes maxL ret nA) (hR : rm.cells = mc ∧ rm.slots = ms ∧ rm.frames + 1 ≤ R.frames ∧ 8 + (maxL + 11) + rm.locals ≤ R.locals) (hs : gSub n ad cz off n' ad' cz')  (hn : As.length = nA) (hst : st0 = As.reverse ++ rest) (hcat : (rest.map fun v => v.category).sum ≤ 8) (hd : decode cc pc = .ok (.invokestatic index, 3)) (hroom : cells + mc ≤ R.cells ∧ slots + ms ≤ R.slots) (kx : ∀ (E : String) (ce : Cell) (q9 : Addr) (H1 : Heap) (locs1 : List Loc) (la : Array Slot), xp E → va_P D vwCl (gWl n ad cz ρ) H1 → va_D A (gWl n ad cz ρ) → va_S A s.heap H1 locs1 → lv_has la nL ls → H1[q9]? = some ce → ce.vm = .none → s.vm.findClass E = some ce.cls → vx_W p l e R s m args below meth c H1 locs1 (cells + mc) (slots + ms) Q (F0 m pc la rest) q9) (kk : ∀ (r : Int32) (ρ1 : Nat → Nat → Int32), post r ρ1 → GW p l e R s m args below meth c Q nL D A n ad cz (gBack ρ off n' ρ1) (cells + mc) (slots + ms) (pc + 3) ls (.int r :: rest)) : GW p l e R s m args below meth c Q nL D A n ad cz ρ cells slots pc ls st0 := by
  intro H locs la hP hD hS hl
  have hfree := gA_sub hs hD hS X.2.2.1
  exact vx_calli (vx_runS X.1 (hM H.size) (gCwS X.1.2.2.2.2 X.2.2.2.1 hL hR) ⟨gPx_blind, fun U hU hW => ⟨rfl, by rw [hU], by rw [hU]; exact gP_sub hs hP, va_K.moved hW.alike X.2.1, gInj_sub hs (gD_inj hD), gNst_warm hW X.2.2.2.2, gEnv_at hE hW hU hS hfree⟩⟩ rfl hn hl.1 hst (lv_room hcat) hd hroom) hS (fun q _ h => hfree q h) hfree (fun q _ h => hfree q h) (fun E ce q9 _ t H1 locs1 ht hvm _ hB hz1 hk1 hS1 hce hcv hcl => by
      have hP1 := gP_back hs (gD_inj hD) hP hk1 (ht ▸ hB.2)
      exact kx E ce q9 H1 locs1 la hB.1 (gP_congr (fun k _ => by simp only [gBack]; split <;> simp_all) hP1) (gD_of (gD_inj hD) (fun _ hk => gD_in hD hk)) hS1 hl hce hcv hcl) (fun r ρ1 t H1 locs1 ht hvm hw hB hz1 hk1 hS1 => kk r ρ1 hw H1 locs1 la (gP_back hs (gD_inj hD) hP hk1 (ht ▸ hB)) (gD_of (gD_inj hD) (fun _ hk => gD_in hD hk)) hS1 hl)
theorem g_xcallSi (X : gX p m c cc nL s args Ts own D cy A) (hE : gEnv s A) {xp : String → Prop} {post : Int32 → (Nat → Nat → Int32) → Prop} (hM : gXI l y bytes maxL ret rm D cy n ad cz As ρ post xp mc ms) (hL : gLkS own index y bytes maxL ret nA) (hR : rm.cells = mc ∧ rm.slots = ms ∧ rm.frames + 1 ≤ R.frames ∧ 8 + (maxL + 11) + rm.locals ≤ R.locals)  (hn : As.length = nA) (hst : st0 = As.reverse ++ rest) (hcat : (rest.map fun v => v.category).sum ≤ 8) (hd : decode cc pc = .ok (.invokestatic index, 3)) (hroom : cells + mc ≤ R.cells ∧ slots + ms ≤ R.slots) (kx : ∀ (E : String) (ce : Cell) (q9 : Addr) (H1 : Heap) (locs1 : List Loc) (la : Array Slot), xp E → va_P D vwCl (gWl n ad cz ρ) H1 → va_D A (gWl n ad cz ρ) → va_S A s.heap H1 locs1 → lv_has la nL ls → H1[q9]? = some ce → ce.vm = .none → s.vm.findClass E = some ce.cls → vx_W p l e R s m args below meth c H1 locs1 (cells + mc) (slots + ms) Q (F0 m pc la rest) q9) (kk : ∀ (r : Int32) (ρ1 : Nat → Nat → Int32), post r ρ1 → GW p l e R s m args below meth c Q nL D A n ad cz ρ1 (cells + mc) (slots + ms) (pc + 3) ls (.int r :: rest)) : GW p l e R s m args below meth c Q nL D A n ad cz ρ cells slots pc ls st0 := g_xcallSi_at X hE 0 (by rw [gOff0]; exact hM) hL hR gSub_self hn hst hcat hd hroom kx (fun r ρ1 hw => g_congr (fun k hk => by rw [gBack_all hk]) (kk r ρ1 hw))
theorem g_xcallSv_at (X : gX p m c cc nL s args Ts own D cy A) (hE : gEnv s A) {xp : String → Prop} {post : (Nat → Nat → Int32) → Prop} (off : Nat) (hM : gXV l y bytes maxL ret rm D cy n' ad' cz' As (fun j => ρ (off + j)) post xp mc ms) (hL : gLkS own index y bytes maxL ret nA) (hR : rm.cells = mc ∧ rm.slots = ms ∧ rm.frames + 1 ≤ R.frames ∧ 8 + (maxL + 11) + rm.locals ≤ R.locals) (hs : gSub n ad cz off n' ad' cz')  (hn : As.length = nA) (hst : st0 = As.reverse ++ rest) (hcat : (rest.map fun v => v.category).sum ≤ 8) (hd : decode cc pc = .ok (.invokestatic index, 3)) (hroom : cells + mc ≤ R.cells ∧ slots + ms ≤ R.slots) (kx : ∀ (E : String) (ce : Cell) (q9 : Addr) (H1 : Heap) (locs1 : List Loc) (la : Array Slot), xp E → va_P D vwCl (gWl n ad cz ρ) H1 → va_D A (gWl n ad cz ρ) → va_S A s.heap H1 locs1 → lv_has la nL ls → H1[q9]? = some ce → ce.vm = .none → s.vm.findClass E = some ce.cls → vx_W p l e R s m args below meth c H1 locs1 (cells + mc) (slots + ms) Q (F0 m pc la rest) q9) (kk : ∀ (ρ1 : Nat → Nat → Int32), post ρ1 → GW p l e R s m args below meth c Q nL D A n ad cz (gBack ρ off n' ρ1) (cells + mc) (slots + ms) (pc + 3) ls rest) : GW p l e R s m args below meth c Q nL D A n ad cz ρ cells slots pc ls st0 := by
  intro H locs la hP hD hS hl
  have hfree := gA_sub hs hD hS X.2.2.1
  exact vx_callv (vx_runS X.1 (hM H.size) (gCwS X.1.2.2.2.2 X.2.2.2.1 hL hR) ⟨gPx_blind, fun U hU hW => ⟨rfl, by rw [hU], by rw [hU]; exact gP_sub hs hP, va_K.moved hW.alike X.2.1, gInj_sub hs (gD_inj hD), gNst_warm hW X.2.2.2.2, gEnv_at hE hW hU hS hfree⟩⟩ rfl hn hl.1 hst (lv_room hcat) hd hroom) hS (fun q _ h => hfree q h) hfree (fun q _ h => hfree q h) (fun E ce q9 _ t H1 locs1 ht hvm _ hB hz1 hk1 hS1 hce hcv hcl => by
      have hP1 := gP_back hs (gD_inj hD) hP hk1 (ht ▸ hB.2)
      exact kx E ce q9 H1 locs1 la hB.1 (gP_congr (fun k _ => by simp only [gBack]; split <;> simp_all) hP1) (gD_of (gD_inj hD) (fun _ hk => gD_in hD hk)) hS1 hl hce hcv hcl) (fun ρ1 t H1 locs1 ht hvm hw hB hz1 hk1 hS1 => kk ρ1 hw H1 locs1 la (gP_back hs (gD_inj hD) hP hk1 (ht ▸ hB)) (gD_of (gD_inj hD) (fun _ hk => gD_in hD hk)) hS1 hl)
theorem g_xcallSv (X : gX p m c cc nL s args Ts own D cy A) (hE : gEnv s A) {xp : String → Prop} {post : (Nat → Nat → Int32) → Prop} (hM : gXV l y bytes maxL ret rm D cy n ad cz As ρ post xp mc ms) (hL : gLkS own index y bytes maxL ret nA) (hR : rm.cells = mc ∧ rm.slots = ms ∧ rm.frames + 1 ≤ R.frames ∧ 8 + (maxL + 11) + rm.locals ≤ R.locals)  (hn : As.length = nA) (hst : st0 = As.reverse ++ rest) (hcat : (rest.map fun v => v.category).sum ≤ 8) (hd : decode cc pc = .ok (.invokestatic index, 3)) (hroom : cells + mc ≤ R.cells ∧ slots + ms ≤ R.slots) (kx : ∀ (E : String) (ce : Cell) (q9 : Addr) (H1 : Heap) (locs1 : List Loc) (la : Array Slot), xp E → va_P D vwCl (gWl n ad cz ρ) H1 → va_D A (gWl n ad cz ρ) → va_S A s.heap H1 locs1 → lv_has la nL ls → H1[q9]? = some ce → ce.vm = .none → s.vm.findClass E = some ce.cls → vx_W p l e R s m args below meth c H1 locs1 (cells + mc) (slots + ms) Q (F0 m pc la rest) q9) (kk : ∀ (ρ1 : Nat → Nat → Int32), post ρ1 → GW p l e R s m args below meth c Q nL D A n ad cz ρ1 (cells + mc) (slots + ms) (pc + 3) ls rest) : GW p l e R s m args below meth c Q nL D A n ad cz ρ cells slots pc ls st0 := g_xcallSv_at X hE 0 (by rw [gOff0]; exact hM) hL hR gSub_self hn hst hcat hd hroom kx (fun ρ1 hw => g_congr (fun k hk => by rw [gBack_all hk]) (kk ρ1 hw))
theorem g_mcallSNi (X : gX p m c cc nL s args Ts own D cy A) {host : String} {post : Int32 → (Nat → Nat → Int32) → Prop} (hM : gMI l y bytes maxL ret rm D cy n ad cz As ρ post mc ms) (hl9 : Cond.methodLinkNest own index y host ∈ gNsw) (h8 : Cond.static y ∈ wAll) (h4 : Cond.initialized y.cls ∈ wAll) (h5 : Cond.code y bytes maxL ret ∈ wAll) (h6 : y.cls ≠ "java/lang/invoke/MethodHandle" ∧ y.cls ≠ "java/lang/invoke/VarHandle" ∧ (parseMethodDescriptor y.desc).map (fun d => d.parameters.length) = some nA) (hR : rm.cells = mc ∧ rm.slots = ms ∧ rm.frames + 1 ≤ R.frames ∧ 8 + (maxL + 11) + rm.locals ≤ R.locals) (hn : As.length = nA) (hst : st0 = As.reverse ++ rest) (hcat : (rest.map fun v => v.category).sum ≤ 8) (hd : decode cc pc = .ok (.invokestatic index, 3)) (hroom : cells + mc ≤ R.cells ∧ slots + ms ≤ R.slots) (kk : ∀ (r : Int32) (ρ1 : Nat → Nat → Int32), post r ρ1 → GW p l e R s m args below meth c Q nL D A n ad cz ρ1 (cells + mc) (slots + ms) (pc + 3) ls (.int r :: rest)) : GW p l e R s m args below meth c Q nL D A n ad cz ρ cells slots pc ls st0 := by
  intro H locs la hP hD hS hl
  have hfree := gA_sub gSub_self hD hS X.2.2.1
  exact va_calli (va_runSN X.1 (hM H.size) ⟨gCwN X.1.2.2.2.2 X.2.2.2.1 X.2.2.2.2 hl9 h4 h5 h6 hR, X.1.2.2.2.2 _ (X.2.2.2.1 _ h8), trivial⟩ ⟨gPc_blind, fun U hU hW => ⟨rfl, by rw [hU], by rw [hU]; exact hP, va_K.moved hW.alike X.2.1, gD_inj hD, gNst_warm hW X.2.2.2.2⟩⟩ rfl hn hl.1 hst (lv_room hcat) hd hroom) hS (fun q _ h => hfree q h) hfree (fun r ρ1 t H1 locs1 ht hvm hw hB hz1 hk1 hS1 => kk r ρ1 hw H1 locs1 la (ht ▸ hB) (gD_of (gD_inj hD) (fun _ hk => gD_in hD hk)) hS1 hl)
theorem g_iret (X : gX p m c cc nL s args Ts own D cy A) (hr : meth.sig.returnType = some .int) (hlocks : meth.locks = false) {post : Int32 → (Nat → Nat → Int32) → Prop} {v : Int32} (hc : cells ≤ mc) (hs : slots ≤ ms) (hd : decode cc pc = .ok (.ireturn, 1)) (hq : post v ρ) : GW p l e R s m args below meth c (MQ below (va_Qi post (gB D n ad cz) A) args s mc ms A) nL D A n ad cz ρ cells slots pc ls [.int v] := fun H locs la hP hD hS hl => W.widen hc hs (W.iret X.1.1 X.1.2.1 hr (fun t ht hW => ⟨⟨v, ρ, rfl, hq, by show va_P _ _ _ t.heap; rw [ht]; exact hP⟩, hS.F ht⟩) hS.2.2 hd hlocks)
theorem g_xiret (X : gX p m c cc nL s args Ts own D cy A) (hr : meth.sig.returnType = some .int) (hlocks : meth.locks = false) {post : Int32 → (Nat → Nat → Int32) → Prop} {xp : String → Prop} {ρ0 : Nat → Nat → Int32} {v : Int32} (hc : cells ≤ mc) (hs : slots ≤ ms) (hd : decode cc pc = .ok (.ireturn, 1)) (hq : post v ρ) : GW p l e R s m args below meth c (vx_MQ below (va_Qi post (gB D n ad cz) A) (gXC D n ad cz ρ0 xp A) args s mc ms A) nL D A n ad cz ρ cells slots pc ls [.int v] := fun H locs la hP hD hS hl => vx_ret (W.widen hc hs (W.iret X.1.1 X.1.2.1 hr (fun t ht hW => ⟨⟨v, ρ, rfl, hq, by show va_P _ _ _ t.heap; rw [ht]; exact hP⟩, hS.F ht⟩) hS.2.2 hd hlocks))
theorem g_vret (X : gX p m c cc nL s args Ts own D cy A) (hr : meth.sig.returnType = none) (hlocks : meth.locks = false) {post : (Nat → Nat → Int32) → Prop} (hc : cells ≤ mc) (hs : slots ≤ ms) (hd : decode cc pc = .ok (.return_, 1)) (hq : post ρ) : GW p l e R s m args below meth c (MQ below (va_Qv post (gB D n ad cz) A) args s mc ms A) nL D A n ad cz ρ cells slots pc ls [] := fun H locs la hP hD hS hl => W.widen hc hs (W.vret X.1.1 X.1.2.1 hr (fun t ht hW => ⟨⟨ρ, rfl, hq, by show va_P _ _ _ t.heap; rw [ht]; exact hP⟩, hS.F ht⟩) hS.2.2 hd hlocks)
theorem g_xvret (X : gX p m c cc nL s args Ts own D cy A) (hr : meth.sig.returnType = none) (hlocks : meth.locks = false) {post : (Nat → Nat → Int32) → Prop} {xp : String → Prop} {ρ0 : Nat → Nat → Int32} (hc : cells ≤ mc) (hs : slots ≤ ms) (hd : decode cc pc = .ok (.return_, 1)) (hq : post ρ) : GW p l e R s m args below meth c (vx_MQ below (va_Qv post (gB D n ad cz) A) (gXC D n ad cz ρ0 xp A) args s mc ms A) nL D A n ad cz ρ cells slots pc ls [] := fun H locs la hP hD hS hl => vx_ret (W.widen hc hs (W.vret X.1.1 X.1.2.1 hr (fun t ht hW => ⟨⟨ρ, rfl, hq, by show va_P _ _ _ t.heap; rw [ht]; exact hP⟩, hS.F ht⟩) hS.2.2 hd hlocks))
theorem g_lret (X : gX p m c cc nL s args Ts own D cy A) (hr : meth.sig.returnType = some .long) (hlocks : meth.locks = false) {post : Int64 → (Nat → Nat → Int32) → Prop} {v : Int64} (hc : cells ≤ mc) (hs : slots ≤ ms) (hd : decode cc pc = .ok (.lreturn, 1)) (hq : post v ρ) : GW p l e R s m args below meth c (MQ below (va_Ql post (gB D n ad cz) A) args s mc ms A) nL D A n ad cz ρ cells slots pc ls [.long v] := fun H locs la hP hD hS hl => W.widen hc hs (W.lret X.1.1 X.1.2.1 hr (fun t ht hW => ⟨⟨v, ρ, rfl, hq, by show va_P _ _ _ t.heap; rw [ht]; exact hP⟩, hS.F ht⟩) hS.2.2 hd hlocks)
theorem g_dret (X : gX p m c cc nL s args Ts own D cy A) (hr : meth.sig.returnType = some .double) (hlocks : meth.locks = false) {post : UInt64 → (Nat → Nat → Int32) → Prop} {v : UInt64} (hc : cells ≤ mc) (hs : slots ≤ ms) (hd : decode cc pc = .ok (.dreturn, 1)) (hq : post v ρ) : GW p l e R s m args below meth c (MQ below (va_Qd post (gB D n ad cz) A) args s mc ms A) nL D A n ad cz ρ cells slots pc ls [.double v] := fun H locs la hP hD hS hl => W.widen hc hs (W.dret X.1.1 X.1.2.1 hr (fun t ht hW => ⟨⟨v, ρ, rfl, hq, by show va_P _ _ _ t.heap; rw [ht]; exact hP⟩, hS.F ht⟩) hS.2.2 hd hlocks)
theorem g_zret (X : gX p m c cc nL s args Ts own D cy A) {ty : FieldType} (hr : meth.sig.returnType = some ty) (hlocks : meth.locks = false) {post : Int32 → (Nat → Nat → Int32) → Prop} {v : Int32} (hn : narrow ty (.int v) = .int v) (hc : cells ≤ mc) (hs : slots ≤ ms) (hd : decode cc pc = .ok (.ireturn, 1)) (hq : post v ρ) : GW p l e R s m args below meth c (MQ below (va_Qi post (gB D n ad cz) A) args s mc ms A) nL D A n ad cz ρ cells slots pc ls [.int v] := fun H locs la hP hD hS hl => W.widen hc hs (W.zret X.1.1 X.1.2.1 hr hn (fun t ht hW => ⟨⟨v, ρ, rfl, hq, by show va_P _ _ _ t.heap; rw [ht]; exact hP⟩, hS.F ht⟩) hS.2.2 hd hlocks)
theorem g_shrink (hs : gSub n ad cz 0 n' ad' cz') (kk : GW p l e R s m args below meth c Q nL D A n' ad' cz' ρ cells slots pc ls st) : GW p l e R s m args below meth c Q nL D A n ad cz ρ cells slots pc ls st := fun H locs la hP hD hS hl => kk H locs la (by have h := gP_sub hs hP; rw [gOff0] at h; exact h) (gD_of (gInj_sub hs (gD_inj hD)) (fun j hj => by rw [(hs.2 j hj).1]; exact gD_in hD (by have := hs.1; omega))) hS hl
theorem gNsw_ot : ∀ w ∈ gNsw, w.onTables = true := fun w hw => (List.all_eq_true.mp (show gNsw.all Cond.onTables = true by decide +kernel)) w hw
theorem g_throw (X : gX p m c cc nL s args Ts own D cy A) (hE : gEnv s A) (hl0 : l.stackTraces = false) {Qc : Array Value → State → Outcome → State → Prop} {xp : String → Prop} {cls text : String} {names : List String} {ik is ic : Nat} (hcls : Bundle.fit cls = true) (hnames : ∀ n ∈ names, Bundle.fit n = true) (hk : Cond.classLink own ik cls ∈ wAll) (hini : Cond.initialized cls ∈ wAll) (hstr : (own, is, text) ∈ gStr) (hat : ∀ w ∈ vx_atS own ic cls names, w ∈ wAll ∨ w ∈ gNsw) (hgood : ∀ w ∈ Cond.classLink own ik cls :: Cond.initialized cls :: vx_atS own ic cls names, vx_ot w = true)
    (d0 : decode cc pc = .ok (.new ik, 3)) (d3 : decode cc (pc + 3) = .ok (.dup, 1)) (d4 : decode cc (pc + 4) = .ok (.ldc is, 2)) (d6 : decode cc (pc + 6) = .ok (.invokespecial ic, 3)) (d9 : decode cc (pc + 9) = .ok (.athrow, 1)) (hout : ∀ x ∈ c.exceptionTable.toList, False)
    (hR : names.length + 3 < R.frames ∧ (rest.map fun v => v.category).sum + (13 * (names.length + 1) + 43) ≤ R.locals ∧ cells + 1 ≤ R.cells ∧ slots + 6 ≤ R.slots) (hlocks : meth.locks = false) (hx : xp cls) (hc : cells + 1 ≤ mc) (hs : slots + 6 ≤ ms) : GW p l e R s m args below meth c (vx_MQ below Qc (gXC D n ad cz ρ xp A) args s mc ms A) nL D A n ad cz ρ cells slots pc ls rest := fun H locs la hP hD hS hl => by
  obtain ⟨sa, hsa⟩ := hE.2.2 _ hstr
  have hts := X.1.2.2.2.2
  have hat' : ∀ w ∈ vx_atS own ic cls names, w.before args s = true := fun w hw => by
    rcases hat w hw with h | h
    · exact hts _ (X.2.2.2.1 _ h)
    · exact va_Nw.use (gNsw_ot w h) (X.2.2.2.2 w h)
  exact vx_throwS X.1.1 X.1.2.1 hl0 X.1.2.2.2.1 hcls hnames (hts _ (X.2.2.2.1 _ hk)) (hts _ (X.2.2.2.1 _ hini)) hsa hat' hgood hE.1 hE.2.1 hS (hl.1.trans X.1.2.2.1.symm) d0 d3 d4 d6 d9 (fun x h => absurd (hout x h) id) hR.1 hR.2.1 hR.2.2.1 hR.2.2.2 hlocks (fun t hvm hz hk => ⟨(), trivial, ⟨hx, hP.kept (fun k q hq => hk _ (hP k q hq).lt)⟩, ⟨Nat.le_trans hS.1 hz, fun q h1 h2 => (hk q (Nat.lt_of_lt_of_le h1 hS.1)).trans (hS.2.1 q h1 h2)⟩⟩) hS.2.2 hc hs
/-- what a callee throws goes on to the caller -/
theorem g_out (ht9 : ∀ x ∈ c.exceptionTable.toList, False) (hlocks : meth.locks = false) {Qc : Array Value → State → Outcome → State → Prop} {xp xp' : String → Prop} (himp : ∀ E, xp' E → xp E) (hc : cells ≤ mc) (hs : slots ≤ ms) : ∀ (E : String) (ce : Cell) (q9 : Addr) (H1 : Heap) (locs1 : List Loc) (la : Array Slot), xp' E → va_P D vwCl (gWl n ad cz ρ) H1 → va_D A (gWl n ad cz ρ) → va_S A s.heap H1 locs1 → lv_has la nL ls → H1[q9]? = some ce → ce.vm = .none → s.vm.findClass E = some ce.cls → vx_W p l e R s m args below meth c H1 locs1 cells slots (vx_MQ below Qc (gXC D n ad cz ρ xp A) args s mc ms A) (F0 m pc la rest) q9 := fun E ce q9 H1 locs1 la hxE hP hD hS hl hce hcv hcl => vx_out (fun x hx => absurd (ht9 x hx) id) hlocks hce hcv hcl (fun t ht hvm => ⟨(), trivial, ⟨himp E hxE, by rw [ht]; exact hP⟩, hS.F ht⟩) hS.2.2 hc hs
theorem gMI_of {post : Int32 → (Nat → Nat → Int32) → Prop} {argv : List Value} (own : String) (hown : y.cls = own) (hy : plainFor y = true) (hlen : (lg_sl argv).length ≤ nL) (hls : lv_args 0 argv = ls) (body : ∀ (p : Program) (e : Env) (s : State) (m : MethodId) (args : Array Value) (below : List Frame) (meth : Method) (c : Code) (A : Nat → Prop), gX p m c cc nL s args (Cond.code y cc nL ret :: wAll) own D cy A → meth.sig.returnType = ret → meth.locks = false → meth.name = y.name → GW p l e rm s m args below meth c (MQ below (va_Qi post (gB D n ad cz) A) args s mc ms A) nL D A n ad cz ρ 0 0 0 ls []) : gMI l y cc nL ret rm D cy n ad cz argv ρ post mc ms := by
  intro sz
  refine va_MetF (cc := cc) (maxL := nL) (ret := ret) hy rfl ?_
  intro p e s m args below meth c s₁ B hml hv
  obtain ⟨rfl, hsz, hP, hK, hi, hN⟩ := hv
  have hts := atoms_spec (ws := Cond.code y cc nL ret :: wAll) B.pre
  have hfc := findClass_of_methodNamed B.named
  rw [hown] at hfc
  have hl := lv_entry argv (n := nL) hlen
  rw [lg_entry_eq]
  rw [hls] at hl
  subst hsz
  exact body p e s m _ below meth c (gA n ad s.heap.size) ⟨⟨B.exec, B.bytes, hml, hfc, hts⟩, hK, fun q h => Or.inr h, fun w h => List.mem_cons_of_mem _ h, hN⟩ B.returns B.notSynchronized (name_of_methodNamed B.named B.method).1 s.heap [] _ hP (gD_of hi (fun k hk => Or.inl ⟨k, hk, rfl⟩)) va_S.rf hl
theorem gXI_of {post : Int32 → (Nat → Nat → Int32) → Prop} {xp : String → Prop} {argv : List Value} (own : String) (hown : y.cls = own) (hy : plainName y.cls = true) (hlen : (lg_sl argv).length ≤ nL) (hls : lv_args 0 argv = ls) (body : ∀ (p : Program) (e : Env) (s : State) (m : MethodId) (args : Array Value) (below : List Frame) (meth : Method) (c : Code) (A : Nat → Prop), gX p m c cc nL s args (Cond.code y cc nL ret :: wAll) own D cy A → gEnv s A → (∀ x ∈ c.exceptionTable.toList, False) → meth.sig.returnType = ret → meth.locks = false → GW p l e rm s m args below meth c (vx_MQ below (va_Qi post (gB D n ad cz) A) (gXC D n ad cz ρ xp A) args s mc ms A) nL D A n ad cz ρ 0 0 0 ls []) : gXI l y cc nL ret rm D cy n ad cz argv ρ post xp mc ms := by
  intro sz
  refine vx_ofW (cc := cc) (maxL := nL) (ret := ret) hy rfl ?_
  intro p e s m args below meth c s₁ B hml ht hv
  obtain ⟨rfl, hsz, hP, hK, hi, hN, hE⟩ := hv
  have hts := atoms_spec (ws := Cond.code y cc nL ret :: wAll) B.pre
  have hfc := findClass_of_methodNamed B.named
  rw [hown] at hfc
  have hl := lv_entry argv (n := nL) hlen
  rw [lg_entry_eq]
  rw [hls] at hl
  subst hsz
  exact body p e s m _ below meth c (gA n ad s.heap.size) ⟨⟨B.exec, B.bytes, hml, hfc, hts⟩, hK, fun q h => Or.inr h, fun w h => List.mem_cons_of_mem _ h, hN⟩ hE ht B.returns B.notSynchronized s.heap [] _ hP (gD_of hi (fun k hk => Or.inl ⟨k, hk, rfl⟩)) va_S.rf hl
theorem gMV_of {post : (Nat → Nat → Int32) → Prop} {argv : List Value} (own : String) (hown : y.cls = own) (hy : plainFor y = true) (hlen : (lg_sl argv).length ≤ nL) (hls : lv_args 0 argv = ls) (body : ∀ (p : Program) (e : Env) (s : State) (m : MethodId) (args : Array Value) (below : List Frame) (meth : Method) (c : Code) (A : Nat → Prop), gX p m c cc nL s args (Cond.code y cc nL ret :: wAll) own D cy A → meth.sig.returnType = ret → meth.locks = false → meth.name = y.name → GW p l e rm s m args below meth c (MQ below (va_Qv post (gB D n ad cz) A) args s mc ms A) nL D A n ad cz ρ 0 0 0 ls []) : gMV l y cc nL ret rm D cy n ad cz argv ρ post mc ms := by
  intro sz
  refine va_MetF (cc := cc) (maxL := nL) (ret := ret) hy rfl ?_
  intro p e s m args below meth c s₁ B hml hv
  obtain ⟨rfl, hsz, hP, hK, hi, hN⟩ := hv
  have hts := atoms_spec (ws := Cond.code y cc nL ret :: wAll) B.pre
  have hfc := findClass_of_methodNamed B.named
  rw [hown] at hfc
  have hl := lv_entry argv (n := nL) hlen
  rw [lg_entry_eq]
  rw [hls] at hl
  subst hsz
  exact body p e s m _ below meth c (gA n ad s.heap.size) ⟨⟨B.exec, B.bytes, hml, hfc, hts⟩, hK, fun q h => Or.inr h, fun w h => List.mem_cons_of_mem _ h, hN⟩ B.returns B.notSynchronized (name_of_methodNamed B.named B.method).1 s.heap [] _ hP (gD_of hi (fun k hk => Or.inl ⟨k, hk, rfl⟩)) va_S.rf hl
theorem gXV_of {post : (Nat → Nat → Int32) → Prop} {xp : String → Prop} {argv : List Value} (own : String) (hown : y.cls = own) (hy : plainName y.cls = true) (hlen : (lg_sl argv).length ≤ nL) (hls : lv_args 0 argv = ls) (body : ∀ (p : Program) (e : Env) (s : State) (m : MethodId) (args : Array Value) (below : List Frame) (meth : Method) (c : Code) (A : Nat → Prop), gX p m c cc nL s args (Cond.code y cc nL ret :: wAll) own D cy A → gEnv s A → (∀ x ∈ c.exceptionTable.toList, False) → meth.sig.returnType = ret → meth.locks = false → GW p l e rm s m args below meth c (vx_MQ below (va_Qv post (gB D n ad cz) A) (gXC D n ad cz ρ xp A) args s mc ms A) nL D A n ad cz ρ 0 0 0 ls []) : gXV l y cc nL ret rm D cy n ad cz argv ρ post xp mc ms := by
  intro sz
  refine vx_ofW (cc := cc) (maxL := nL) (ret := ret) hy rfl ?_
  intro p e s m args below meth c s₁ B hml ht hv
  obtain ⟨rfl, hsz, hP, hK, hi, hN, hE⟩ := hv
  have hts := atoms_spec (ws := Cond.code y cc nL ret :: wAll) B.pre
  have hfc := findClass_of_methodNamed B.named
  rw [hown] at hfc
  have hl := lv_entry argv (n := nL) hlen
  rw [lg_entry_eq]
  rw [hls] at hl
  subst hsz
  exact body p e s m _ below meth c (gA n ad s.heap.size) ⟨⟨B.exec, B.bytes, hml, hfc, hts⟩, hK, fun q h => Or.inr h, fun w h => List.mem_cons_of_mem _ h, hN⟩ hE ht B.returns B.notSynchronized s.heap [] _ hP (gD_of hi (fun k hk => Or.inl ⟨k, hk, rfl⟩)) va_S.rf hl
theorem gML_of {post : Int64 → (Nat → Nat → Int32) → Prop} {argv : List Value} (own : String) (hown : y.cls = own) (hy : plainFor y = true) (hlen : (lg_sl argv).length ≤ nL) (hls : lv_args 0 argv = ls) (body : ∀ (p : Program) (e : Env) (s : State) (m : MethodId) (args : Array Value) (below : List Frame) (meth : Method) (c : Code) (A : Nat → Prop), gX p m c cc nL s args (Cond.code y cc nL ret :: wAll) own D cy A → meth.sig.returnType = ret → meth.locks = false → meth.name = y.name → GW p l e rm s m args below meth c (MQ below (va_Ql post (gB D n ad cz) A) args s mc ms A) nL D A n ad cz ρ 0 0 0 ls []) : gML l y cc nL ret rm D cy n ad cz argv ρ post mc ms := by
  intro sz
  refine va_MetF (cc := cc) (maxL := nL) (ret := ret) hy rfl ?_
  intro p e s m args below meth c s₁ B hml hv
  obtain ⟨rfl, hsz, hP, hK, hi, hN⟩ := hv
  have hts := atoms_spec (ws := Cond.code y cc nL ret :: wAll) B.pre
  have hfc := findClass_of_methodNamed B.named
  rw [hown] at hfc
  have hl := lv_entry argv (n := nL) hlen
  rw [lg_entry_eq]
  rw [hls] at hl
  subst hsz
  exact body p e s m _ below meth c (gA n ad s.heap.size) ⟨⟨B.exec, B.bytes, hml, hfc, hts⟩, hK, fun q h => Or.inr h, fun w h => List.mem_cons_of_mem _ h, hN⟩ B.returns B.notSynchronized (name_of_methodNamed B.named B.method).1 s.heap [] _ hP (gD_of hi (fun k hk => Or.inl ⟨k, hk, rfl⟩)) va_S.rf hl
theorem gMD_of {post : UInt64 → (Nat → Nat → Int32) → Prop} {argv : List Value} (own : String) (hown : y.cls = own) (hy : plainFor y = true) (hlen : (lg_sl argv).length ≤ nL) (hls : lv_args 0 argv = ls) (body : ∀ (p : Program) (e : Env) (s : State) (m : MethodId) (args : Array Value) (below : List Frame) (meth : Method) (c : Code) (A : Nat → Prop), gX p m c cc nL s args (Cond.code y cc nL ret :: wAll) own D cy A → meth.sig.returnType = ret → meth.locks = false → meth.name = y.name → GW p l e rm s m args below meth c (MQ below (va_Qd post (gB D n ad cz) A) args s mc ms A) nL D A n ad cz ρ 0 0 0 ls []) : gMD l y cc nL ret rm D cy n ad cz argv ρ post mc ms := by
  intro sz
  refine va_MetF (cc := cc) (maxL := nL) (ret := ret) hy rfl ?_
  intro p e s m args below meth c s₁ B hml hv
  obtain ⟨rfl, hsz, hP, hK, hi, hN⟩ := hv
  have hts := atoms_spec (ws := Cond.code y cc nL ret :: wAll) B.pre
  have hfc := findClass_of_methodNamed B.named
  rw [hown] at hfc
  have hl := lv_entry argv (n := nL) hlen
  rw [lg_entry_eq]
  rw [hls] at hl
  subst hsz
  exact body p e s m _ below meth c (gA n ad s.heap.size) ⟨⟨B.exec, B.bytes, hml, hfc, hts⟩, hK, fun q h => Or.inr h, fun w h => List.mem_cons_of_mem _ h, hN⟩ B.returns B.notSynchronized (name_of_methodNamed B.named B.method).1 s.heap [] _ hP (gD_of hi (fun k hk => Or.inl ⟨k, hk, rfl⟩)) va_S.rf hl
end GMS
end
section
/-! The class's cells: 0 the organ; 1 and 6 the pipes and the trial (each with worn, off, cricket, played behind it); 11 tunes, 12 streets, 13 damp; from 14 on each tune with its notes and times; from 32 on each street with what it heard -/
def cC (ad : Nat → Nat) (cy : Nat → ClassId) (k : Nat) (r : Nat → Int32) : va_E :=
  if k = 0 then .inr (3, [.ref (ad 1), .ref (ad 6), .ref (ad 11), .ref (ad 12), .ref (ad 13), .int (r 5), .int (r 6), .int (r 7), .int (r 8), .int (r 9)])
  else if k = 1 ∨ k = 6 then .inr (0, [.ref (ad (k + 1)), .ref (ad (k + 2)), .ref (ad (k + 3)), .ref (ad (k + 4))])
  else if k = 2 ∨ k = 3 ∨ k = 7 ∨ k = 8 then .inl (cy 0, 12, .inl r)
  else if k = 4 ∨ k = 5 ∨ k = 9 ∨ k = 10 then .inl (cy 1, 12, .inl r)
  else if k = 11 then .inl (cy 2, 6, .inr (.inr (.inr (.inr (fun i => some (ad (14 + 3 * i)))))))
  else if k = 12 then .inl (cy 3, 8, .inr (.inr (.inr (.inr (fun i => some (ad (32 + 2 * i)))))))
  else if k = 13 then .inl (cy 0, 7, .inl r)
  else if k < 32 then (if (k - 14) % 3 = 0 then .inr (2, [.ref (ad (k + 1)), .ref (ad (k + 2)), .int (r 2)]) else if (k - 14) % 3 = 1 then .inl (cy 0, 16, .inl r) else .inl (cy 0, 12, .inl r))
  else if k % 2 = 0 then .inr (1, [.ref (ad (k + 1)), .int (r 1), .int (r 2), .int (r 3)])
  else .inl (cy 0, 6, .inl r)
def isP (b : Nat) : Prop := b = 1 ∨ b = 6
section LC
variable {ad : Nat → Nat} {cy : Nat → ClassId} {b t i : Nat}
theorem isP_lt (h : isP b) : b < 10 := by rcases h with rfl | rfl <;> decide
theorem lC_f_worn (h : isP b) : gFR (cC ad cy) ad b 0 0 (b + 1) := by rcases h with rfl | rfl <;> exact fun r => ⟨_, rfl, rfl⟩
theorem lC_worn (h : isP b) : gAI (cC ad cy) (cy 0) (b + 1) 12 := by rcases h with rfl | rfl <;> exact fun r => rfl
theorem lC_f_off (h : isP b) : gFR (cC ad cy) ad b 0 1 (b + 2) := by rcases h with rfl | rfl <;> exact fun r => ⟨_, rfl, rfl⟩
theorem lC_off (h : isP b) : gAI (cC ad cy) (cy 0) (b + 2) 12 := by rcases h with rfl | rfl <;> exact fun r => rfl
theorem lC_f_cri (h : isP b) : gFR (cC ad cy) ad b 0 2 (b + 3) := by rcases h with rfl | rfl <;> exact fun r => ⟨_, rfl, rfl⟩
theorem lC_cri (h : isP b) : gAI (cC ad cy) (cy 1) (b + 3) 12 := by rcases h with rfl | rfl <;> exact fun r => rfl
theorem lC_f_pla (h : isP b) : gFR (cC ad cy) ad b 0 3 (b + 4) := by rcases h with rfl | rfl <;> exact fun r => ⟨_, rfl, rfl⟩
theorem lC_pla (h : isP b) : gAI (cC ad cy) (cy 1) (b + 4) 12 := by rcases h with rfl | rfl <;> exact fun r => rfl
theorem lC_P (h : isP b) : gOb (cC ad cy) b 0 := by rcases h with rfl | rfl <;> exact fun r => ⟨_, rfl⟩
theorem lC_O : gOb (cC ad cy) 0 3 := fun r => ⟨_, rfl⟩
theorem lC_o_pipes : gFR (cC ad cy) ad 0 3 0 1 := fun r => ⟨_, rfl, rfl⟩
theorem lC_o_trial : gFR (cC ad cy) ad 0 3 1 6 := fun r => ⟨_, rfl, rfl⟩
theorem lC_o_tunes : gFR (cC ad cy) ad 0 3 2 11 := fun r => ⟨_, rfl, rfl⟩
theorem lC_o_streets : gFR (cC ad cy) ad 0 3 3 12 := fun r => ⟨_, rfl, rfl⟩
theorem lC_o_damp : gFR (cC ad cy) ad 0 3 4 13 := fun r => ⟨_, rfl, rfl⟩
theorem lC_o_tuneCount : gFI (cC ad cy) 0 3 5 := fun r => ⟨_, rfl, rfl, Nat.le_of_ble_eq_true rfl, fun v => rfl⟩
theorem lC_o_streetCount : gFI (cC ad cy) 0 3 6 := fun r => ⟨_, rfl, rfl, Nat.le_of_ble_eq_true rfl, fun v => rfl⟩
theorem lC_o_day : gFI (cC ad cy) 0 3 7 := fun r => ⟨_, rfl, rfl, Nat.le_of_ble_eq_true rfl, fun v => rfl⟩
theorem lC_o_coins : gFI (cC ad cy) 0 3 8 := fun r => ⟨_, rfl, rfl, Nat.le_of_ble_eq_true rfl, fun v => rfl⟩
theorem lC_o_fines : gFI (cC ad cy) 0 3 9 := fun r => ⟨_, rfl, rfl, Nat.le_of_ble_eq_true rfl, fun v => rfl⟩
theorem lC_tunes : gAR (cC ad cy) ad (cy 2) 11 6 (fun i => 14 + 3 * i) := fun r => ⟨_, rfl, fun i _ => rfl⟩
theorem lC_streets : gAR (cC ad cy) ad (cy 3) 12 8 (fun i => 32 + 2 * i) := fun r => ⟨_, rfl, fun i _ => rfl⟩
theorem lC_damp : gAI (cC ad cy) (cy 0) 13 7 := fun r => rfl
theorem lC_T (h : t < 6) : gOb (cC ad cy) (14 + 3 * t) 2 := by rcases (show t = 0 ∨ t = 1 ∨ t = 2 ∨ t = 3 ∨ t = 4 ∨ t = 5 by omega) with rfl | rfl | rfl | rfl | rfl | rfl <;> exact fun r => ⟨_, rfl⟩
theorem lC_f_notes (h : t < 6) : gFR (cC ad cy) ad (14 + 3 * t) 2 0 (15 + 3 * t) := by rcases (show t = 0 ∨ t = 1 ∨ t = 2 ∨ t = 3 ∨ t = 4 ∨ t = 5 by omega) with rfl | rfl | rfl | rfl | rfl | rfl <;> exact fun r => ⟨_, rfl, rfl⟩
theorem lC_f_times (h : t < 6) : gFR (cC ad cy) ad (14 + 3 * t) 2 1 (16 + 3 * t) := by rcases (show t = 0 ∨ t = 1 ∨ t = 2 ∨ t = 3 ∨ t = 4 ∨ t = 5 by omega) with rfl | rfl | rfl | rfl | rfl | rfl <;> exact fun r => ⟨_, rfl, rfl⟩
theorem lC_f_length (h : t < 6) : gFI (cC ad cy) (14 + 3 * t) 2 2 := by rcases (show t = 0 ∨ t = 1 ∨ t = 2 ∨ t = 3 ∨ t = 4 ∨ t = 5 by omega) with rfl | rfl | rfl | rfl | rfl | rfl <;> exact fun r => ⟨_, rfl, rfl, Nat.le_of_ble_eq_true rfl, fun v => rfl⟩
theorem lC_notes (h : t < 6) : gAI (cC ad cy) (cy 0) (15 + 3 * t) 16 := by rcases (show t = 0 ∨ t = 1 ∨ t = 2 ∨ t = 3 ∨ t = 4 ∨ t = 5 by omega) with rfl | rfl | rfl | rfl | rfl | rfl <;> exact fun r => rfl
theorem lC_times (h : t < 6) : gAI (cC ad cy) (cy 0) (16 + 3 * t) 12 := by rcases (show t = 0 ∨ t = 1 ∨ t = 2 ∨ t = 3 ∨ t = 4 ∨ t = 5 by omega) with rfl | rfl | rfl | rfl | rfl | rfl <;> exact fun r => rfl
theorem lC_S (h : t < 8) : gOb (cC ad cy) (32 + 2 * t) 1 := by rcases (show t = 0 ∨ t = 1 ∨ t = 2 ∨ t = 3 ∨ t = 4 ∨ t = 5 ∨ t = 6 ∨ t = 7 by omega) with rfl | rfl | rfl | rfl | rfl | rfl | rfl | rfl <;> exact fun r => ⟨_, rfl⟩
theorem lC_f_heard (h : t < 8) : gFR (cC ad cy) ad (32 + 2 * t) 1 0 (33 + 2 * t) := by rcases (show t = 0 ∨ t = 1 ∨ t = 2 ∨ t = 3 ∨ t = 4 ∨ t = 5 ∨ t = 6 ∨ t = 7 by omega) with rfl | rfl | rfl | rfl | rfl | rfl | rfl | rfl <;> exact fun r => ⟨_, rfl, rfl⟩
theorem lC_f_listeners (h : t < 8) : gFI (cC ad cy) (32 + 2 * t) 1 1 := by rcases (show t = 0 ∨ t = 1 ∨ t = 2 ∨ t = 3 ∨ t = 4 ∨ t = 5 ∨ t = 6 ∨ t = 7 by omega) with rfl | rfl | rfl | rfl | rfl | rfl | rfl | rfl <;> exact fun r => ⟨_, rfl, rfl, Nat.le_of_ble_eq_true rfl, fun v => rfl⟩
theorem lC_f_permits (h : t < 8) : gFI (cC ad cy) (32 + 2 * t) 1 2 := by rcases (show t = 0 ∨ t = 1 ∨ t = 2 ∨ t = 3 ∨ t = 4 ∨ t = 5 ∨ t = 6 ∨ t = 7 by omega) with rfl | rfl | rfl | rfl | rfl | rfl | rfl | rfl <;> exact fun r => ⟨_, rfl, rfl, Nat.le_of_ble_eq_true rfl, fun v => rfl⟩
theorem lC_f_paid (h : t < 8) : gFI (cC ad cy) (32 + 2 * t) 1 3 := by rcases (show t = 0 ∨ t = 1 ∨ t = 2 ∨ t = 3 ∨ t = 4 ∨ t = 5 ∨ t = 6 ∨ t = 7 by omega) with rfl | rfl | rfl | rfl | rfl | rfl | rfl | rfl <;> exact fun r => ⟨_, rfl, rfl, Nat.le_of_ble_eq_true rfl, fun v => rfl⟩
theorem lC_heard (h : t < 8) : gAI (cC ad cy) (cy 0) (33 + 2 * t) 6 := by rcases (show t = 0 ∨ t = 1 ∨ t = 2 ∨ t = 3 ∨ t = 4 ∨ t = 5 ∨ t = 6 ∨ t = 7 by omega) with rfl | rfl | rfl | rfl | rfl | rfl | rfl | rfl <;> exact fun r => rfl
end LC
end
section
section GR
variable {p : Program} {l : Launch} {e : Env} {R : Room} {s : State} {m : MethodId} {args : Array Value} {below : List Frame} {meth : Method} {c : Code} {Q : State → Prop}
variable {cc : ByteArray} {nL : Nat} {Ts : List Cond} {own : String} {D : va_G} {cy : Nat → ClassId} {A : Nat → Prop}
variable {n : Nat} {ad : Nat → Nat} {cz : Nat → (Nat → Int32) → va_E} {ρ : Nat → Nat → Int32} {cells slots pc : Nat} {ls ls' : List (Nat × Value)} {st rest : List Value}
/-- a loop whose state is told by the number of rounds -/
theorem g_loop (I : Nat → Prop) (f : Nat → Nat → Nat → Int32) (lf : Nat → List (Nat × Value)) (cf sf : Nat → Nat) (N i0 : Nat) (h0 : I i0) (hi0 : i0 ≤ N) (hl : ls = lf i0) (hr : ρ = f i0) (hc : cells = cf i0) (hs : slots = sf i0)
    (step : ∀ i : Nat, i0 ≤ i → i ≤ N → I i → (i < N → I (i + 1) → GW p l e R s m args below meth c Q nL D A n ad cz (f (i + 1)) (cf (i + 1)) (sf (i + 1)) pc (lf (i + 1)) st) → GW p l e R s m args below meth c Q nL D A n ad cz (f i) (cf i) (sf i) pc (lf i) st) : GW p l e R s m args below meth c Q nL D A n ad cz ρ cells slots pc ls st := by
  subst hl hr hc hs
  have key : ∀ (k i : Nat), i0 ≤ i → i + k = N → I i → GW p l e R s m args below meth c Q nL D A n ad cz (f i) (cf i) (sf i) pc (lf i) st := by
    intro k
    induction k with
    | zero => intro i hi0 hi hI; exact step i hi0 (by omega) hI (fun h => absurd h (by omega))
    | succ k ih => intro i hi0 hi hI; exact step i hi0 (by omega) hI (fun h hI2 => ih (i + 1) (by omega) (by omega) hI2)
  exact key (N - i0) i0 (Nat.le_refl _) (by omega) h0
theorem g_eqv {ρ' : Nat → Nat → Int32} {cells' slots' : Nat} (kk : GW p l e R s m args below meth c Q nL D A n ad cz ρ' cells' slots' pc ls' st) (hl : ls = ls') (hr : ρ = ρ') (hc : cells = cells') (hs : slots = slots') : GW p l e R s m args below meth c Q nL D A n ad cz ρ cells slots pc ls st := by
  subst hl hr hc hs; exact kk
theorem g_lookup (X : gX p m c cc nL s args Ts own D cy A) {dflt : Int} {ps : Array (Int × Int)} {len : Nat} {x : Int32} (off : Int) (tgt : Nat) (hd : decode cc pc = .ok (.lookupswitch dflt ps, len)) (hp : (ps.toList.zip (ps.toList.drop 1)).all (fun (a, next) => a.1 < next.1) = true) (ho : Op.lookupswitch.offset ps.toList dflt x.toInt = off) (ht : (pc : Int) + off = (tgt : Int)) (kk : GW p l e R s m args below meth c Q nL D A n ad cz ρ cells slots tgt ls st) : GW p l e R s m args below meth c Q nL D A n ad cz ρ cells slots pc ls (.int x :: st) := fun H locs la hP hD hS hl => lv_lookup X.1.1 X.1.2.1 hd hp ho ht (kk H locs la hP hD hS hl)
theorem g_ialdN (X : gX p m c cc nL s args Ts own D cy A) (k : Nat) (i : Nat) {len : Nat} (hk : k < n) (hF : gAI cz (cy 0) k len) (hin : i < len) (h31 : len < 2 ^ 31) (hd : decode cc pc = .ok (.iaload, 1)) (kk : GW p l e R s m args below meth c Q nL D A n ad cz ρ cells slots (pc + 1) ls (.int (ρ k i) :: st)) : GW p l e R s m args below meth c Q nL D A n ad cz ρ cells slots pc ls (.int (nI i) :: .ref (ad k) :: st) := g_iald X k hk hF (vp_in_nI hin h31) hd (by rw [nI_clamp (by omega)]; exact kk)
theorem g_zaldN (X : gX p m c cc nL s args Ts own D cy A) (k : Nat) (i : Nat) {len : Nat} (hk : k < n) (hF : gAI cz (cy 1) k len) (hin : i < len) (h31 : len < 2 ^ 31) (hd : decode cc pc = .ok (.baload, 1)) (kk : GW p l e R s m args below meth c Q nL D A n ad cz ρ cells slots (pc + 1) ls (.int (ρ k i) :: st)) : GW p l e R s m args below meth c Q nL D A n ad cz ρ cells slots pc ls (.int (nI i) :: .ref (ad k) :: st) := g_zald X k hk hF (vp_in_nI hin h31) hd (by rw [nI_clamp (by omega)]; exact kk)
theorem g_iastN (X : gX p m c cc nL s args Ts own D cy A) {x : Int32} (k : Nat) (i : Nat) {len : Nat} (hk : k < n) (hF : gAI cz (cy 0) k len) (hin : i < len) (h31 : len < 2 ^ 31) (hd : decode cc pc = .ok (.iastore, 1)) (kk : ∀ ρ1, ρ1 = up2 ρ k i x → GW p l e R s m args below meth c Q nL D A n ad cz ρ1 cells slots (pc + 1) ls st) : GW p l e R s m args below meth c Q nL D A n ad cz ρ cells slots pc ls (.int x :: .int (nI i) :: .ref (ad k) :: st) := g_iast X k hk hF (vp_in_nI hin h31) hd (fun ρ1 h => kk ρ1 (by rw [h, nI_clamp (by omega)]))
theorem g_zastN (X : gX p m c cc nL s args Ts own D cy A) {x : Int32} (k : Nat) (i : Nat) {len : Nat} (hk : k < n) (hF : gAI cz (cy 1) k len) (hx : vp_nar .boolean x = x) (hin : i < len) (h31 : len < 2 ^ 31) (hd : decode cc pc = .ok (.bastore, 1)) (kk : ∀ ρ1, ρ1 = up2 ρ k i x → GW p l e R s m args below meth c Q nL D A n ad cz ρ1 cells slots (pc + 1) ls st) : GW p l e R s m args below meth c Q nL D A n ad cz ρ cells slots pc ls (.int x :: .int (nI i) :: .ref (ad k) :: st) := g_zast X k hk hF hx (vp_in_nI hin h31) hd (fun ρ1 h => kk ρ1 (by rw [h, nI_clamp (by omega)]))
theorem g_aaldN (X : gX p m c cc nL s args Ts own D cy A) (k : Nat) (i : Nat) (t0 : Nat) {len : Nat} {C : String} {tgt : Nat → Nat} (hk : k < n) {cA : ClassId} (hF : gAR cz ad cA k len tgt) (ht : (gT cy)[t0]? = some (cA, .object C)) (hin : i < len) (h31 : len < 2 ^ 31) (hd : decode cc pc = .ok (.aaload, 1)) (kk : GW p l e R s m args below meth c Q nL D A n ad cz ρ cells slots (pc + 1) ls (.ref (ad (tgt i)) :: st)) : GW p l e R s m args below meth c Q nL D A n ad cz ρ cells slots pc ls (.int (nI i) :: .ref (ad k) :: st) := g_aald X k hk hF ht (vp_in_nI hin h31) hd (by rw [nI_clamp (by omega)]; exact kk)
theorem g_iincN (X : gX p m c cc nL s args Ts own D cy A) (a i : Nat) (ls' : List (Nat × Value)) (place : Nat) (hd : decode cc pc = .ok (.iinc i 1, 3)) (hq : ls[place]? = some (i, .int (nI a))) (hn : i < nL) (hf : (i, Value.int (nI (a + 1))) :: ls.filter (fun q => !(q.1 == i) && !(q.1 + 1 == i && q.2.category == 2)) = ls') (kk : GW p l e R s m args below meth c Q nL D A n ad cz ρ cells slots (pc + 3) ls' st) : GW p l e R s m args below meth c Q nL D A n ad cz ρ cells slots pc ls st := g_iinc X (nI (a + 1)) ls' place hd hq (nI_1 a) hn hf kk
theorem g_icmp_eqN (X : gX p m c cc nL s args Ts own D cy A) (a b : Nat) {off : Int} (tgt : Nat) (ha : a < 2 ^ 31) (hb : b < 2 ^ 31) (hd : decode cc pc = .ok (.if_icmp .eq off, 3)) (ht : (pc : Int) + off = (tgt : Int)) (kt : a = b → GW p l e R s m args below meth c Q nL D A n ad cz ρ cells slots tgt ls st) (kf : a ≠ b → GW p l e R s m args below meth c Q nL D A n ad cz ρ cells slots (pc + 3) ls st) : GW p l e R s m args below meth c Q nL D A n ad cz ρ cells slots pc ls (.int (nI b) :: .int (nI a) :: st) := g_icmp_eq X tgt hd ht (fun h => kt ((nI_eq ha hb).mp h)) (fun h => kf (fun q => h ((nI_eq ha hb).mpr q)))
theorem g_icmp_neN (X : gX p m c cc nL s args Ts own D cy A) (a b : Nat) {off : Int} (tgt : Nat) (ha : a < 2 ^ 31) (hb : b < 2 ^ 31) (hd : decode cc pc = .ok (.if_icmp .ne off, 3)) (ht : (pc : Int) + off = (tgt : Int)) (kt : a ≠ b → GW p l e R s m args below meth c Q nL D A n ad cz ρ cells slots tgt ls st) (kf : a = b → GW p l e R s m args below meth c Q nL D A n ad cz ρ cells slots (pc + 3) ls st) : GW p l e R s m args below meth c Q nL D A n ad cz ρ cells slots pc ls (.int (nI b) :: .int (nI a) :: st) := g_icmp_ne X tgt hd ht (fun h => kt (fun q => h ((nI_eq ha hb).mpr q))) (fun h => kf ((nI_eq ha hb).mp h))
theorem g_icmp_ltN (X : gX p m c cc nL s args Ts own D cy A) (a b : Nat) {off : Int} (tgt : Nat) (ha : a < 2 ^ 31) (hb : b < 2 ^ 31) (hd : decode cc pc = .ok (.if_icmp .lt off, 3)) (ht : (pc : Int) + off = (tgt : Int)) (kt : a < b → GW p l e R s m args below meth c Q nL D A n ad cz ρ cells slots tgt ls st) (kf : b ≤ a → GW p l e R s m args below meth c Q nL D A n ad cz ρ cells slots (pc + 3) ls st) : GW p l e R s m args below meth c Q nL D A n ad cz ρ cells slots pc ls (.int (nI b) :: .int (nI a) :: st) := g_icmp_lt X tgt hd ht (fun h => kt ((nI_ltI ha hb).mp h)) (fun h => kf (Nat.le_of_not_lt (fun q => h ((nI_ltI ha hb).mpr q))))
theorem g_icmp_geN (X : gX p m c cc nL s args Ts own D cy A) (a b : Nat) {off : Int} (tgt : Nat) (ha : a < 2 ^ 31) (hb : b < 2 ^ 31) (hd : decode cc pc = .ok (.if_icmp .ge off, 3)) (ht : (pc : Int) + off = (tgt : Int)) (kt : b ≤ a → GW p l e R s m args below meth c Q nL D A n ad cz ρ cells slots tgt ls st) (kf : a < b → GW p l e R s m args below meth c Q nL D A n ad cz ρ cells slots (pc + 3) ls st) : GW p l e R s m args below meth c Q nL D A n ad cz ρ cells slots pc ls (.int (nI b) :: .int (nI a) :: st) := g_icmp_ge X tgt hd ht (fun h => kt ((nI_leI hb ha).mp h)) (fun h => kf (Nat.lt_of_not_le (fun q => h ((nI_leI hb ha).mpr q))))
theorem g_icmp_gtN (X : gX p m c cc nL s args Ts own D cy A) (a b : Nat) {off : Int} (tgt : Nat) (ha : a < 2 ^ 31) (hb : b < 2 ^ 31) (hd : decode cc pc = .ok (.if_icmp .gt off, 3)) (ht : (pc : Int) + off = (tgt : Int)) (kt : b < a → GW p l e R s m args below meth c Q nL D A n ad cz ρ cells slots tgt ls st) (kf : a ≤ b → GW p l e R s m args below meth c Q nL D A n ad cz ρ cells slots (pc + 3) ls st) : GW p l e R s m args below meth c Q nL D A n ad cz ρ cells slots pc ls (.int (nI b) :: .int (nI a) :: st) := g_icmp_gt X tgt hd ht (fun h => kt ((nI_ltI hb ha).mp h)) (fun h => kf (Nat.le_of_not_lt (fun q => h ((nI_ltI hb ha).mpr q))))
theorem g_icmp_leN (X : gX p m c cc nL s args Ts own D cy A) (a b : Nat) {off : Int} (tgt : Nat) (ha : a < 2 ^ 31) (hb : b < 2 ^ 31) (hd : decode cc pc = .ok (.if_icmp .le off, 3)) (ht : (pc : Int) + off = (tgt : Int)) (kt : a ≤ b → GW p l e R s m args below meth c Q nL D A n ad cz ρ cells slots tgt ls st) (kf : b < a → GW p l e R s m args below meth c Q nL D A n ad cz ρ cells slots (pc + 3) ls st) : GW p l e R s m args below meth c Q nL D A n ad cz ρ cells slots pc ls (.int (nI b) :: .int (nI a) :: st) := g_icmp_le X tgt hd ht (fun h => kt ((nI_leI ha hb).mp h)) (fun h => kf (Nat.lt_of_not_le (fun q => h ((nI_leI ha hb).mpr q))))
theorem g_ifz (X : gX p m c cc nL s args Ts own D cy A) (b : Nat) (hz : nI b = 0 ↔ b = 0) {off : Int} (tgt : Nat) (hd : decode cc pc = .ok (.ifCond .eq off, 3)) (ht : (pc : Int) + off = (tgt : Int)) (kt : b = 0 → GW p l e R s m args below meth c Q nL D A n ad cz ρ cells slots tgt ls st) (kf : b ≠ 0 → GW p l e R s m args below meth c Q nL D A n ad cz ρ cells slots (pc + 3) ls st) : GW p l e R s m args below meth c Q nL D A n ad cz ρ cells slots pc ls (.int (nI b) :: st) := g_if_eq X tgt hd ht (fun h => kt (hz.mp h)) (fun h => kf (fun q => h (hz.mpr q)))
theorem nI_z {b : Nat} (hb : b < 2 ^ 31) : nI b = 0 ↔ b = 0 := by
  rw [show (0 : Int32) = nI 0 from rfl]
  exact nI_eq hb (by omega)
theorem vp_z0 : vp_nar .boolean 0 = 0 := by decide
theorem vp_z1 : vp_nar .boolean 1 = 1 := by decide
theorem vp_z01 {x : Int32} (h : x = 0 ∨ x = 1) : vp_nar .boolean x = x := by rcases h with rfl | rfl <;> decide
end GR
theorem up2_s {ρ : Nat → Nat → Int32} {k j : Nat} {v : Int32} : up2 ρ k j v k j = v := by simp [up2, up1, upd]
theorem up2_k {ρ : Nat → Nat → Int32} {k j a b : Nat} {v : Int32} (h : a ≠ k) : up2 ρ k j v a b = ρ a b := by simp [up2, up1, h]
theorem up2_j {ρ : Nat → Nat → Int32} {k j a b : Nat} {v : Int32} (h : b ≠ j) : up2 ρ k j v a b = ρ a b := by
  simp only [up2, up1, upd]
  by_cases h1 : a = k
  · subst h1; simp [upd, h]
  · simp [h1]
theorem up2_e {ρ : Nat → Nat → Int32} {k j a b : Nat} {v : Int32} : up2 ρ k j v a b = if a = k ∧ b = j then v else ρ a b := by
  simp only [up2, up1, upd]
  by_cases h1 : a = k
  · subst h1; by_cases h2 : b = j <;> simp [upd, h2]
  · simp [h1]
end
section
/-! What the methods answer, in plain words over the class's cells -/
def mnI (x y : Int32) : Int32 := if y < x then y else x
def mxI (x y : Int32) : Int32 := if x < y then y else x
def ab (o : Int32) : Int32 := if 0 ≤ o then o else 0 - o
def hm (w o c : Int32) : Int32 := if c = 0 then mnI 60 (ab o + 2 * w) else 60
def hP (ρ : Nat → Nat → Int32) (b i : Nat) : Int32 := hm (ρ (b + 1) i) (ρ (b + 2) i) (ρ (b + 3) i)
def sumI (f : Nat → Int32) : Nat → Int32
  | 0 => 0
  | k + 1 => sumI f k + f k
theorem sumI_s {f : Nat → Int32} {k : Nat} : sumI f (k + 1) = sumI f k + f k := rfl
theorem sumI_congr {f g : Nat → Int32} {k : Nat} (h : ∀ j, j < k → f j = g j) : sumI f k = sumI g k := by
  induction k with
  | zero => rfl
  | succ k ih => rw [sumI_s, sumI_s, ih (fun j hj => h j (by omega)), h k (by omega)]
def hd (y : Int32) : Int32 := mxI (-60) (mnI 60 y)
def b01 (x : Int32) : Int32 := if x = 0 then 0 else 1
def crc (ρ : Nat → Nat → Int32) (b : Nat) : Int32 := sumI (fun j => b01 (ρ (b + 3) j)) 12
def wrn (ρ : Nat → Nat → Int32) (b : Nat) : Int32 := sumI (fun j => ρ (b + 1) j) 12
def ofn (ρ : Nat → Nat → Int32) (b : Nat) : Int32 := sumI (fun j => ab (ρ (b + 2) j)) 12
def sumUpF (ρ : Nat → Nat → Int32) (b w : Nat) : Int32 := if w = 5 then crc ρ b else if w = 6 then wrn ρ b else ofn ρ b
def tellF (ρ : Nat → Nat → Int32) (b i w : Nat) : Int32 := if w = 0 then ρ (b + 1) i else if w = 1 then ρ (b + 2) i else if w = 2 then b01 (ρ (b + 3) i) else if w = 3 then hP ρ b i else b01 (ρ (b + 4) i)
/-- the first i pipes of the trial are as the organ's -/
def becR (ρ : Nat → Nat → Int32) (i : Nat) : Nat → Nat → Int32 := fun k j => if (k = 7 ∨ k = 8 ∨ k = 9 ∨ k = 10) ∧ j < i then ρ (k - 5) j else ρ k j
def clrR (ρ : Nat → Nat → Int32) (b i : Nat) : Nat → Nat → Int32 := fun k j => if k = b + 3 ∧ j < i then 0 else ρ k j
def cmB (ρ : Nat → Nat → Int32) (b j : Nat) : Int32 := if ρ (b + 1) j < 10 then 0 else if ρ (b + 4) j = 0 then (if ρ (b + 3) j = 0 then 1 else 0) else 0
def par (d : Int32) (j : Nat) : Int32 := if nI (j % 2) = 0 then d else -d
/-- a night, with damp d, over the first i pipes -/
def ntR (ρ : Nat → Nat → Int32) (b : Nat) (d : Int32) (i : Nat) : Nat → Nat → Int32 := fun k j =>
  if j < i then (if k = b + 2 then hd (ρ k j + par d j) else if k = b + 3 then (if cmB ρ b j = 1 then 1 else ρ k j) else if k = b + 4 then 0 else ρ k j) else ρ k j
theorem remN {a : Nat} (h : a < 2 ^ 31) : nI a - nI a / 2 * 2 = nI (a % 2) := pk_rem (d := 2) h (by omega) (by omega)
theorem remN7 {a : Nat} (h : a < 2 ^ 31) : nI a - nI a / 7 * 7 = nI (a % 7) := pk_rem (d := 7) h (by omega) (by omega)
def pmF (p w : Int32) : Int32 := if (p >>> (w &&& 31)) &&& 1 = 1 then 1 else 0
def hrd (ρ : Nat → Nat → Int32) (s : Nat) : Int32 := sumI (fun j => ρ (33 + 2 * s) j) 6
def toldF (ρ : Nat → Nat → Int32) (s w : Nat) (wd : Int32) : Int32 := if w = 0 then ρ (32 + 2 * s) 1 else if w = 1 then ρ (32 + 2 * s) 2 else if w = 2 then pmF (ρ (32 + 2 * s) 2) wd else if w = 3 then ρ (32 + 2 * s) 3 else hrd ρ s
/-- the sound of tune t by the pipes b, the pipe sp spared -/
def sndC (ρ : Nat → Nat → Int32) (b t : Nat) (sp : Int32) : Int32 := if ρ (14 + 3 * t) 2 = 0 then 0 else 60 - sumI (fun i => if nI i = sp then 0 else ρ (16 + 3 * t) i * hP ρ b i) 12 / ρ (14 + 3 * t) 2
def wdR (ρ : Nat → Nat → Int32) (b t i : Nat) : Nat → Nat → Int32 := fun k j => if j < i ∧ 0 < ρ (16 + 3 * t) j then (if k = b + 1 then mnI 30 (ρ k j + ρ (16 + 3 * t) j) else if k = b + 4 then 1 else ρ k j) else ρ k j
def fgR (ρ : Nat → Nat → Int32) (s i : Nat) : Nat → Nat → Int32 := fun k j => if k = 33 + 2 * s ∧ j < i then 0 else ρ k j
def payV (ρ : Nat → Nat → Int32) (s t : Nat) (snd : Int32) : Int32 := nI ((ρ (32 + 2 * s) 1 * snd / 60).toNatClampNeg / 2 ^ (ρ (33 + 2 * s) t).toNatClampNeg)
def payOK (ρ : Nat → Nat → Int32) (s t : Nat) (snd : Int32) : Prop := ∃ P h : Nat, ρ (32 + 2 * s) 1 * snd / 60 = nI P ∧ P < 2 ^ 20 ∧ ρ (33 + 2 * s) t = nI h ∧ h < 2 ^ 31
def pyN (ρ : Nat → Nat → Int32) (s t : Nat) : Int32 := payV ρ s t (sndC ρ 1 t (-1))
def wdF (ρ : Nat → Nat → Int32) : Int32 := nI ((ρ 0 7).toNatClampNeg % 7)
def nsR (ρ : Nat → Nat → Int32) (b d : Nat) : Nat → Nat → Nat → Int32
  | 0 => ρ
  | i + 1 => ntR (nsR ρ b d i) b (ρ 13 ((d + i) % 7)) 12
def csF (ρ : Nat → Nat → Int32) (b d : Nat) : Nat → Int32
  | 0 => 0
  | i + 1 => csF ρ b d i + sumI (cmB (nsR ρ b d i) b) 12
theorem nsR_out {ρ : Nat → Nat → Int32} {b d i k : Nat} (h : k < b + 2 ∨ b + 4 < k) : nsR ρ b d i k = ρ k := by
  induction i with
  | zero => rfl
  | succ i ih =>
    rw [← ih]
    funext j
    simp only [nsR, ntR]
    rw [if_neg (show ¬ k = b + 2 by omega), if_neg (show ¬ k = b + 3 by omega), if_neg (show ¬ k = b + 4 by omega)]
    exact ite_self _
def countF (ρ : Nat → Nat → Int32) (w : Nat) : Int32 := if w = 0 then ρ 0 7 else if w = 1 then wdF ρ else if w = 2 then ρ 0 8 else if w = 3 then ρ 0 5 else if w = 4 then ρ 0 6 else if w = 8 then ρ 0 9 else sumUpF ρ 1 w
def mixF (d : Int64) (x : Int32) : Int64 := d * 31 + x.toInt64
def mxs (f : Nat → Int32) : Nat → Int64 → Int64
  | 0, d => d
  | k + 1, d => mixF (mxs f k d) (f k)
def mtF (ρ : Nat → Nat → Int32) (t : Nat) (d : Int64) : Int64 := mixF (mxs (fun k => ρ (15 + 3 * t) k) (ρ (14 + 3 * t) 2).toNatClampNeg (mixF d (ρ (14 + 3 * t) 2))) (sndC ρ 1 t (-1))
def msF (ρ : Nat → Nat → Int32) (s : Nat) (d : Int64) : Int64 := mxs (fun t => pyN ρ s t) (ρ 0 5).toNatClampNeg (mxs (fun w => toldF ρ s w (wdF ρ)) 5 d)
theorem nI_le0 {b : Nat} (hb : b < 2 ^ 31) (h : nI b ≤ 0) : b = 0 := by
  rw [show (0 : Int32) = nI 0 from rfl, nI_leI hb (by omega)] at h
  omega
theorem halfN {P i : Nat} (h : P < 2 ^ 20) : nI (P / 2 ^ i) / 2 = nI (P / 2 ^ (i + 1)) := by
  have h1 : P / 2 ^ i ≤ P := Nat.div_le_self _ _
  rw [show nI (P / 2 ^ i) / 2 = nI (P / 2 ^ i / 2) from pk_div (d := 2) (by omega) (by omega) (by omega), Nat.div_div_eq_div_mul, Nat.pow_succ]
theorem xorN {a b : Nat} (ha : a < 2 ^ 31) (hb : b < 2 ^ 31) : 0 ≤ nI a ^^^ nI b := by
  have key : ∀ {x : Int32}, x.toBitVec.msb = false → 0 ≤ x := fun {x} hx => by
    rw [Int32.le_iff_toInt_le]
    show (0 : Int) ≤ x.toBitVec.toInt
    rw [BitVec.toInt_eq_msb_cond, hx]
    simp
  apply key
  have hm : ∀ n : Nat, n < 2 ^ 31 → (nI n).toBitVec.msb = false := fun n hn => by
    rw [BitVec.msb_eq_decide, pk_tn (by omega)]
    simp; omega
  rw [Int32.toBitVec_xor, BitVec.msb_xor, hm a ha, hm b hb]
  rfl
theorem nI_zero : (0 : Int32) = nI 0 := rfl
end
section
theorem kc_X0_harmOf : Cond.code yX0_harmOf cX0_harmOf 2 (some .int) ∈ wAll := kAll 284 (by decide +kernel) (by decide +kernel)
theorem kf_X0_18 : Cond.fieldLink RX0 18 (TX0 2).1 (TX0 2).2.1 (TX0 2).2.2.1 ∈ wAll := kAll 42 (by decide +kernel) (by decide +kernel)
theorem ku_X0 : ∀ w ∈ u_ws RX0 TX0 4, w ∈ wAll := by decide +kernel
theorem kv_X0 : vwCl[0]? = some (RX0, TX0, 4) := rfl
theorem kf_X0_15 : Cond.fieldLink RX0 15 (TX0 1).1 (TX0 1).2.1 (TX0 1).2.2.1 ∈ wAll := kAll 40 (by decide +kernel) (by decide +kernel)
theorem km_X0_25 : Cond.methodLink RX0 25 Lib.Math.abs.name ∈ wAll := kAll 285 (by decide +kernel) (by decide +kernel)
theorem kt_mabs : Cond.static Lib.Math.abs.name ∈ wAll := kAll 286 (by decide +kernel) (by decide +kernel)
theorem ki_math : Cond.initialized "java/lang/Math" ∈ wAll := kAll 20 (by decide +kernel) (by decide +kernel)
theorem kc_mabs : Cond.code Lib.Math.abs.name Lib.Math.abs.code 1 (some .int) ∈ wAll := kAll 287 (by decide +kernel) (by decide +kernel)
theorem kf_X0_9 : Cond.fieldLink RX0 9 (TX0 0).1 (TX0 0).2.1 (TX0 0).2.2.1 ∈ wAll := kAll 38 (by decide +kernel) (by decide +kernel)
theorem km_X0_31 : Cond.methodLink RX0 31 Lib.Math.min.name ∈ wAll := kAll 288 (by decide +kernel) (by decide +kernel)
theorem kt_mmin : Cond.static Lib.Math.min.name ∈ wAll := kAll 267 (by decide +kernel) (by decide +kernel)
theorem kc_mmin : Cond.code Lib.Math.min.name Lib.Math.min.code 2 (some .int) ∈ wAll := kAll 268 (by decide +kernel) (by decide +kernel)
theorem kc_X0_wear : Cond.code yX0_wear cX0_wear 3 none ∈ wAll := kAll 300 (by decide +kernel) (by decide +kernel)
theorem kf_X0_22 : Cond.fieldLink RX0 22 (TX0 3).1 (TX0 3).2.1 (TX0 3).2.2.1 ∈ wAll := kAll 43 (by decide +kernel) (by decide +kernel)
theorem kc_X0_shift : Cond.code yX0_shift cX0_shift 3 none ∈ wAll := kAll 376 (by decide +kernel) (by decide +kernel)
theorem km_X0_35 : Cond.methodLink RX0 35 Lib.Math.max.name ∈ wAll := kAll 377 (by decide +kernel) (by decide +kernel)
theorem kt_mmax : Cond.static Lib.Math.max.name ∈ wAll := kAll 378 (by decide +kernel) (by decide +kernel)
theorem kc_mmax : Cond.code Lib.Math.max.name Lib.Math.max.code 2 (some .int) ∈ wAll := kAll 379 (by decide +kernel) (by decide +kernel)
theorem kc_X0_become : Cond.code yX0_become cX0_become 3 none ∈ wAll := kAll 405 (by decide +kernel) (by decide +kernel)
theorem kc_X0_passNight : Cond.code yX0_passNight cX0_passNight 4 (some .int) ∈ wAll := kAll 372 (by decide +kernel) (by decide +kernel)
theorem km_X0_38 : Cond.methodLink RX0 38 yX0_shift ∈ wAll := kAll 373 (by decide +kernel) (by decide +kernel)
theorem kj_X0_shift : Cond.instanceMethod yX0_shift ∈ wAll := kAll 374 (by decide +kernel) (by decide +kernel)
theorem ks_X0_shift : Cond.selects RX0 yX0_shift yX0_shift ∈ wAll := kAll 375 (by decide +kernel) (by decide +kernel)
theorem ki_X0 : Cond.initialized RX0 ∈ wAll := kAll 11 (by decide +kernel) (by decide +kernel)
theorem kl_X0_38 : gLkV RX0 38 RX0 yX0_shift cX0_shift 3 none 2 := ⟨km_X0_38, kj_X0_shift, ks_X0_shift, ki_X0, kc_X0_shift, by decide +kernel⟩
theorem kc_X0_clearCrickets : Cond.code yX0_clearCrickets cX0_clearCrickets 2 none ∈ wAll := kAll 553 (by decide +kernel) (by decide +kernel)
theorem kc_X0_cricketCount : Cond.code yX0_cricketCount cX0_cricketCount 3 (some .int) ∈ wAll := kAll 348 (by decide +kernel) (by decide +kernel)
theorem kc_X0_wornInAll : Cond.code yX0_wornInAll cX0_wornInAll 3 (some .int) ∈ wAll := kAll 352 (by decide +kernel) (by decide +kernel)
theorem kc_X0_offInAll : Cond.code yX0_offInAll cX0_offInAll 3 (some .int) ∈ wAll := kAll 356 (by decide +kernel) (by decide +kernel)
theorem kc_X0_sumUp : Cond.code yX0_sumUp cX0_sumUp 2 (some .int) ∈ wAll := kAll 344 (by decide +kernel) (by decide +kernel)
theorem km_X0_42 : Cond.methodLink RX0 42 yX0_cricketCount ∈ wAll := kAll 345 (by decide +kernel) (by decide +kernel)
theorem kj_X0_cricketCount : Cond.instanceMethod yX0_cricketCount ∈ wAll := kAll 346 (by decide +kernel) (by decide +kernel)
theorem ks_X0_cricketCount : Cond.selects RX0 yX0_cricketCount yX0_cricketCount ∈ wAll := kAll 347 (by decide +kernel) (by decide +kernel)
theorem kl_X0_42 : gLkV RX0 42 RX0 yX0_cricketCount cX0_cricketCount 3 (some .int) 0 := ⟨km_X0_42, kj_X0_cricketCount, ks_X0_cricketCount, ki_X0, kc_X0_cricketCount, by decide +kernel⟩
theorem km_X0_46 : Cond.methodLink RX0 46 yX0_wornInAll ∈ wAll := kAll 349 (by decide +kernel) (by decide +kernel)
theorem kj_X0_wornInAll : Cond.instanceMethod yX0_wornInAll ∈ wAll := kAll 350 (by decide +kernel) (by decide +kernel)
theorem ks_X0_wornInAll : Cond.selects RX0 yX0_wornInAll yX0_wornInAll ∈ wAll := kAll 351 (by decide +kernel) (by decide +kernel)
theorem kl_X0_46 : gLkV RX0 46 RX0 yX0_wornInAll cX0_wornInAll 3 (some .int) 0 := ⟨km_X0_46, kj_X0_wornInAll, ks_X0_wornInAll, ki_X0, kc_X0_wornInAll, by decide +kernel⟩
theorem km_X0_49 : Cond.methodLink RX0 49 yX0_offInAll ∈ wAll := kAll 353 (by decide +kernel) (by decide +kernel)
theorem kj_X0_offInAll : Cond.instanceMethod yX0_offInAll ∈ wAll := kAll 354 (by decide +kernel) (by decide +kernel)
theorem ks_X0_offInAll : Cond.selects RX0 yX0_offInAll yX0_offInAll ∈ wAll := kAll 355 (by decide +kernel) (by decide +kernel)
theorem kl_X0_49 : gLkV RX0 49 RX0 yX0_offInAll cX0_offInAll 3 (some .int) 0 := ⟨km_X0_49, kj_X0_offInAll, ks_X0_offInAll, ki_X0, kc_X0_offInAll, by decide +kernel⟩
theorem kc_X0_tell : Cond.code yX0_tell cX0_tell 3 (some .int) ∈ wAll := kAll 313 (by decide +kernel) (by decide +kernel)
theorem km_X0_52 : Cond.methodLink RX0 52 yX0_harmOf ∈ wAll := kAll 314 (by decide +kernel) (by decide +kernel)
theorem kj_X0_harmOf : Cond.instanceMethod yX0_harmOf ∈ wAll := kAll 282 (by decide +kernel) (by decide +kernel)
theorem ks_X0_harmOf : Cond.selects RX0 yX0_harmOf yX0_harmOf ∈ wAll := kAll 283 (by decide +kernel) (by decide +kernel)
theorem kl_X0_52 : gLkV RX0 52 RX0 yX0_harmOf cX0_harmOf 2 (some .int) 1 := ⟨km_X0_52, kj_X0_harmOf, ks_X0_harmOf, ki_X0, kc_X0_harmOf, by decide +kernel⟩
theorem kc_X1_isPermittedOn : Cond.code yX1_isPermittedOn cX1_isPermittedOn 2 (some .boolean) ∈ wAll := kAll 261 (by decide +kernel) (by decide +kernel)
theorem kf_X1_15 : Cond.fieldLink RX1 15 (TX1 2).1 (TX1 2).2.1 (TX1 2).2.2.1 ∈ wAll := kAll 85 (by decide +kernel) (by decide +kernel)
theorem ku_X1 : ∀ w ∈ u_ws RX1 TX1 4, w ∈ wAll := by decide +kernel
theorem kv_X1 : vwCl[1]? = some (RX1, TX1, 4) := rfl
theorem kc_X1_payFor : Cond.code yX1_payFor cX1_payFor 5 (some .int) ∈ wAll := kAll 292 (by decide +kernel) (by decide +kernel)
theorem kf_X1_19 : Cond.fieldLink RX1 19 (TX1 1).1 (TX1 1).2.1 (TX1 1).2.2.1 ∈ wAll := kAll 83 (by decide +kernel) (by decide +kernel)
theorem kf_X1_9 : Cond.fieldLink RX1 9 (TX1 0).1 (TX1 0).2.1 (TX1 0).2.2.1 ∈ wAll := kAll 81 (by decide +kernel) (by decide +kernel)
theorem kc_X1_forgetDay : Cond.code yX1_forgetDay cX1_forgetDay 2 none ∈ wAll := kAll 383 (by decide +kernel) (by decide +kernel)
theorem kc_X1_heardInAll : Cond.code yX1_heardInAll cX1_heardInAll 3 (some .int) ∈ wAll := kAll 331 (by decide +kernel) (by decide +kernel)
theorem kc_X1_tell : Cond.code yX1_tell cX1_tell 3 (some .int) ∈ wAll := kAll 326 (by decide +kernel) (by decide +kernel)
theorem km_X1_22 : Cond.methodLink RX1 22 yX1_isPermittedOn ∈ wAll := kAll 327 (by decide +kernel) (by decide +kernel)
theorem kj_X1_isPermittedOn : Cond.instanceMethod yX1_isPermittedOn ∈ wAll := kAll 259 (by decide +kernel) (by decide +kernel)
theorem ks_X1_isPermittedOn : Cond.selects RX1 yX1_isPermittedOn yX1_isPermittedOn ∈ wAll := kAll 260 (by decide +kernel) (by decide +kernel)
theorem ki_X1 : Cond.initialized RX1 ∈ wAll := kAll 13 (by decide +kernel) (by decide +kernel)
theorem kl_X1_22 : gLkV RX1 22 RX1 yX1_isPermittedOn cX1_isPermittedOn 2 (some .boolean) 1 := ⟨km_X1_22, kj_X1_isPermittedOn, ks_X1_isPermittedOn, ki_X1, kc_X1_isPermittedOn, by decide +kernel⟩
theorem kf_X1_26 : Cond.fieldLink RX1 26 (TX1 3).1 (TX1 3).2.1 (TX1 3).2.2.1 ∈ wAll := kAll 87 (by decide +kernel) (by decide +kernel)
theorem km_X1_29 : Cond.methodLink RX1 29 yX1_heardInAll ∈ wAll := kAll 328 (by decide +kernel) (by decide +kernel)
theorem kj_X1_heardInAll : Cond.instanceMethod yX1_heardInAll ∈ wAll := kAll 329 (by decide +kernel) (by decide +kernel)
theorem ks_X1_heardInAll : Cond.selects RX1 yX1_heardInAll yX1_heardInAll ∈ wAll := kAll 330 (by decide +kernel) (by decide +kernel)
theorem kl_X1_29 : gLkV RX1 29 RX1 yX1_heardInAll cX1_heardInAll 3 (some .int) 0 := ⟨km_X1_29, kj_X1_heardInAll, ks_X1_heardInAll, ki_X1, kc_X1_heardInAll, by decide +kernel⟩
theorem kc_X2_append : Cond.code yX2_append cX2_append 2 (some .int) ∈ wAll := kAll 516 (by decide +kernel) (by decide +kernel)
theorem kf_X2_9 : Cond.fieldLink RX2 9 (TX2 0).1 (TX2 0).2.1 (TX2 0).2.2.1 ∈ wAll := kAll 62 (by decide +kernel) (by decide +kernel)
theorem ku_X2 : ∀ w ∈ u_ws RX2 TX2 3, w ∈ wAll := by decide +kernel
theorem kv_X2 : vwCl[2]? = some (RX2, TX2, 3) := rfl
theorem kf_X2_18 : Cond.fieldLink RX2 18 (TX2 2).1 (TX2 2).2.1 (TX2 2).2.2.1 ∈ wAll := kAll 65 (by decide +kernel) (by decide +kernel)
theorem kf_X2_15 : Cond.fieldLink RX2 15 (TX2 1).1 (TX2 1).2.1 (TX2 1).2.2.1 ∈ wAll := kAll 64 (by decide +kernel) (by decide +kernel)
theorem kc_X2_soundSparing : Cond.code yX2_soundSparing cX2_soundSparing 5 (some .int) ∈ wAll := kAll 280 (by decide +kernel) (by decide +kernel)
theorem km_X2_26 : Cond.methodLink RX2 26 yX0_harmOf ∈ wAll := kAll 281 (by decide +kernel) (by decide +kernel)
theorem kl_X2_26 : gLkV RX2 26 RX0 yX0_harmOf cX0_harmOf 2 (some .int) 1 := ⟨km_X2_26, kj_X0_harmOf, ks_X0_harmOf, ki_X0, kc_X0_harmOf, by decide +kernel⟩
theorem kc_X2_soundOf : Cond.code yX2_soundOf cX2_soundOf 2 (some .int) ∈ wAll := kAll 276 (by decide +kernel) (by decide +kernel)
theorem km_X2_22 : Cond.methodLink RX2 22 yX2_soundSparing ∈ wAll := kAll 277 (by decide +kernel) (by decide +kernel)
theorem kj_X2_soundSparing : Cond.instanceMethod yX2_soundSparing ∈ wAll := kAll 278 (by decide +kernel) (by decide +kernel)
theorem ks_X2_soundSparing : Cond.selects RX2 yX2_soundSparing yX2_soundSparing ∈ wAll := kAll 279 (by decide +kernel) (by decide +kernel)
theorem ki_X2 : Cond.initialized RX2 ∈ wAll := kAll 12 (by decide +kernel) (by decide +kernel)
theorem kl_X2_22 : gLkV RX2 22 RX2 yX2_soundSparing cX2_soundSparing 5 (some .int) 2 := ⟨km_X2_22, kj_X2_soundSparing, ks_X2_soundSparing, ki_X2, kc_X2_soundSparing, by decide +kernel⟩
theorem kc_X2_wearDown : Cond.code yX2_wearDown cX2_wearDown 3 none ∈ wAll := kAll 296 (by decide +kernel) (by decide +kernel)
theorem km_X2_32 : Cond.methodLink RX2 32 yX0_wear ∈ wAll := kAll 297 (by decide +kernel) (by decide +kernel)
theorem kj_X0_wear : Cond.instanceMethod yX0_wear ∈ wAll := kAll 298 (by decide +kernel) (by decide +kernel)
theorem ks_X0_wear : Cond.selects RX0 yX0_wear yX0_wear ∈ wAll := kAll 299 (by decide +kernel) (by decide +kernel)
theorem kl_X2_32 : gLkV RX2 32 RX0 yX0_wear cX0_wear 3 none 2 := ⟨km_X2_32, kj_X0_wear, ks_X0_wear, ki_X0, kc_X0_wear, by decide +kernel⟩
theorem kc_J9_floorMod_7cf53 : Cond.code yJ9_floorMod_7cf53 cJ9_floorMod_7cf53 3 (some .int) ∈ wAll := kAll 257 (by decide +kernel) (by decide +kernel)
theorem kc_X3_weekdayOf : Cond.code yX3_weekdayOf cX3_weekdayOf 1 (some .int) ∈ wAll := kAll 254 (by decide +kernel) (by decide +kernel)
theorem km_X3_210 : Cond.methodLink RX3 210 yJ9_floorMod_7cf53 ∈ wAll := kAll 255 (by decide +kernel) (by decide +kernel)
theorem kt_J9_floorMod_7cf53 : Cond.static yJ9_floorMod_7cf53 ∈ wAll := kAll 256 (by decide +kernel) (by decide +kernel)
theorem ki_J9 : Cond.initialized RJ9 ∈ wAll := kAll 20 (by decide +kernel) (by decide +kernel)
theorem kl_X3_210 : gLkS RX3 210 yJ9_floorMod_7cf53 cJ9_floorMod_7cf53 3 (some .int) 2 := ⟨km_X3_210, kt_J9_floorMod_7cf53, ki_J9, kc_J9_floorMod_7cf53, by decide +kernel⟩
theorem kc_X3_checkTune : Cond.code yX3_checkTune cX3_checkTune 2 none ∈ wAll := kAll 136 (by decide +kernel) (by decide +kernel)
theorem kk_X3_67 : Cond.classLink RX3 67 "java/lang/IndexOutOfBoundsException" ∈ wAll := kAll 137 (by decide +kernel) (by decide +kernel)
theorem ki_IOB : Cond.initialized "java/lang/IndexOutOfBoundsException" ∈ wAll := kAll 22 (by decide +kernel) (by decide +kernel)
theorem kh_IOB_71 : ∀ w ∈ vx_atS RX3 71 "java/lang/IndexOutOfBoundsException" ["java/lang/RuntimeException", "java/lang/Exception"], w ∈ wAll ∨ w ∈ gNsw := by decide +kernel
theorem kh_IOB_71g : ∀ w ∈ Cond.classLink RX3 67 "java/lang/IndexOutOfBoundsException" :: Cond.initialized "java/lang/IndexOutOfBoundsException" :: vx_atS RX3 71 "java/lang/IndexOutOfBoundsException" ["java/lang/RuntimeException", "java/lang/Exception"], vx_ot w = true := by decide +kernel
theorem kst_200 : (RX3, 200, "no such tune") ∈ gStr := by decide +kernel
theorem kf_X3_41 : Cond.fieldLink RX3 41 (TX3 5).1 (TX3 5).2.1 (TX3 5).2.2.1 ∈ wAll := kAll 103 (by decide +kernel) (by decide +kernel)
theorem ku_X3 : ∀ w ∈ u_ws RX3 TX3 10, w ∈ wAll := by decide +kernel
theorem kv_X3 : vwCl[3]? = some (RX3, TX3, 10) := rfl
theorem kc_X3_checkStreet : Cond.code yX3_checkStreet cX3_checkStreet 2 none ∈ wAll := kAll 234 (by decide +kernel) (by decide +kernel)
theorem kst_202 : (RX3, 202, "no such street") ∈ gStr := by decide +kernel
theorem kf_X3_83 : Cond.fieldLink RX3 83 (TX3 6).1 (TX3 6).2.1 (TX3 6).2.2.1 ∈ wAll := kAll 104 (by decide +kernel) (by decide +kernel)
theorem kc_X3_checkPipe : Cond.code yX3_checkPipe cX3_checkPipe 1 none ∈ wAll := kAll 307 (by decide +kernel) (by decide +kernel)
theorem kst_204 : (RX3, 204, "pipe is not 0 to 11") ∈ gStr := by decide +kernel
theorem kc_X3_checkPermits : Cond.code yX3_checkPermits cX3_checkPermits 1 none ∈ wAll := kAll 524 (by decide +kernel) (by decide +kernel)
theorem kk_X3_75 : Cond.classLink RX3 75 "java/lang/IllegalArgumentException" ∈ wAll := kAll 211 (by decide +kernel) (by decide +kernel)
theorem ki_IAE : Cond.initialized "java/lang/IllegalArgumentException" ∈ wAll := kAll 23 (by decide +kernel) (by decide +kernel)
theorem kh_IAE_79 : ∀ w ∈ vx_atS RX3 79 "java/lang/IllegalArgumentException" ["java/lang/RuntimeException", "java/lang/Exception"], w ∈ wAll ∨ w ∈ gNsw := by decide +kernel
theorem kh_IAE_79g : ∀ w ∈ Cond.classLink RX3 75 "java/lang/IllegalArgumentException" :: Cond.initialized "java/lang/IllegalArgumentException" :: vx_atS RX3 79 "java/lang/IllegalArgumentException" ["java/lang/RuntimeException", "java/lang/Exception"], vx_ot w = true := by decide +kernel
theorem kst_206 : (RX3, 206, "permits is not a set of weekdays") ∈ gStr := by decide +kernel
theorem kc_X3_checkNights : Cond.code yX3_checkNights cX3_checkNights 1 none ∈ wAll := kAll 363 (by decide +kernel) (by decide +kernel)
theorem kst_208 : (RX3, 208, "nights is not 1 to 60") ∈ gStr := by decide +kernel
theorem kc_X3_payNow : Cond.code yX3_payNow cX3_payNow 3 (some .int) ∈ wAll := kAll 272 (by decide +kernel) (by decide +kernel)
theorem kf_X3_28 : Cond.fieldLink RX3 28 (TX3 3).1 (TX3 3).2.1 (TX3 3).2.2.1 ∈ wAll := kAll 101 (by decide +kernel) (by decide +kernel)
theorem kf_X3_21 : Cond.fieldLink RX3 21 (TX3 2).1 (TX3 2).2.1 (TX3 2).2.2.1 ∈ wAll := kAll 100 (by decide +kernel) (by decide +kernel)
theorem kf_X3_10 : Cond.fieldLink RX3 10 (TX3 0).1 (TX3 0).2.1 (TX3 0).2.2.1 ∈ wAll := kAll 98 (by decide +kernel) (by decide +kernel)
theorem km_X3_156 : Cond.methodLink RX3 156 yX2_soundOf ∈ wAll := kAll 273 (by decide +kernel) (by decide +kernel)
theorem kj_X2_soundOf : Cond.instanceMethod yX2_soundOf ∈ wAll := kAll 274 (by decide +kernel) (by decide +kernel)
theorem ks_X2_soundOf : Cond.selects RX2 yX2_soundOf yX2_soundOf ∈ wAll := kAll 275 (by decide +kernel) (by decide +kernel)
theorem kl_X3_156 : gLkV RX3 156 RX2 yX2_soundOf cX2_soundOf 2 (some .int) 1 := ⟨km_X3_156, kj_X2_soundOf, ks_X2_soundOf, ki_X2, kc_X2_soundOf, by decide +kernel⟩
theorem km_X3_215 : Cond.methodLink RX3 215 yX1_payFor ∈ wAll := kAll 289 (by decide +kernel) (by decide +kernel)
theorem kj_X1_payFor : Cond.instanceMethod yX1_payFor ∈ wAll := kAll 290 (by decide +kernel) (by decide +kernel)
theorem ks_X1_payFor : Cond.selects RX1 yX1_payFor yX1_payFor ∈ wAll := kAll 291 (by decide +kernel) (by decide +kernel)
theorem kl_X3_215 : gLkV RX3 215 RX1 yX1_payFor cX1_payFor 5 (some .int) 2 := ⟨km_X3_215, kj_X1_payFor, ks_X1_payFor, ki_X1, kc_X1_payFor, by decide +kernel⟩
theorem kc_X3_payFine : Cond.code yX3_payFine cX3_payFine 2 (some .int) ∈ wAll := kAll 265 (by decide +kernel) (by decide +kernel)
theorem kf_X3_37 : Cond.fieldLink RX3 37 (TX3 8).1 (TX3 8).2.1 (TX3 8).2.2.1 ∈ wAll := kAll 106 (by decide +kernel) (by decide +kernel)
theorem km_X3_218 : Cond.methodLink RX3 218 Lib.Math.min.name ∈ wAll := kAll 266 (by decide +kernel) (by decide +kernel)
theorem kf_X3_221 : Cond.fieldLink RX3 221 (TX3 9).1 (TX3 9).2.1 (TX3 9).2.2.1 ∈ wAll := kAll 107 (by decide +kernel) (by decide +kernel)
theorem kc_X3_passNights : Cond.code yX3_passNights cX3_passNights 5 (some .int) ∈ wAll := kAll 368 (by decide +kernel) (by decide +kernel)
theorem kf_X3_33 : Cond.fieldLink RX3 33 (TX3 4).1 (TX3 4).2.1 (TX3 4).2.2.1 ∈ wAll := kAll 102 (by decide +kernel) (by decide +kernel)
theorem kf_X3_103 : Cond.fieldLink RX3 103 (TX3 7).1 (TX3 7).2.1 (TX3 7).2.2.1 ∈ wAll := kAll 105 (by decide +kernel) (by decide +kernel)
theorem km_X3_106 : Cond.methodLink RX3 106 yX3_weekdayOf ∈ wAll := kAll 252 (by decide +kernel) (by decide +kernel)
theorem kt_X3_weekdayOf : Cond.static yX3_weekdayOf ∈ wAll := kAll 253 (by decide +kernel) (by decide +kernel)
theorem ki_X3 : Cond.initialized RX3 ∈ wAll := kAll 10 (by decide +kernel) (by decide +kernel)
theorem kl_X3_106 : gLkS RX3 106 yX3_weekdayOf cX3_weekdayOf 1 (some .int) 1 := ⟨km_X3_106, kt_X3_weekdayOf, ki_X3, kc_X3_weekdayOf, by decide +kernel⟩
theorem km_X3_224 : Cond.methodLink RX3 224 yX0_passNight ∈ wAll := kAll 369 (by decide +kernel) (by decide +kernel)
theorem kj_X0_passNight : Cond.instanceMethod yX0_passNight ∈ wAll := kAll 370 (by decide +kernel) (by decide +kernel)
theorem ks_X0_passNight : Cond.selects RX0 yX0_passNight yX0_passNight ∈ wAll := kAll 371 (by decide +kernel) (by decide +kernel)
theorem kl_X3_224 : gLkV RX3 224 RX0 yX0_passNight cX0_passNight 4 (some .int) 1 := ⟨km_X3_224, kj_X0_passNight, ks_X0_passNight, ki_X0, kc_X0_passNight, by decide +kernel⟩
theorem kc_X3_countNow : Cond.code yX3_countNow cX3_countNow 2 (some .int) ∈ wAll := kAll 340 (by decide +kernel) (by decide +kernel)
theorem km_X3_184 : Cond.methodLink RX3 184 yX0_sumUp ∈ wAll := kAll 341 (by decide +kernel) (by decide +kernel)
theorem kj_X0_sumUp : Cond.instanceMethod yX0_sumUp ∈ wAll := kAll 342 (by decide +kernel) (by decide +kernel)
theorem ks_X0_sumUp : Cond.selects RX0 yX0_sumUp yX0_sumUp ∈ wAll := kAll 343 (by decide +kernel) (by decide +kernel)
theorem kl_X3_184 : gLkV RX3 184 RX0 yX0_sumUp cX0_sumUp 2 (some .int) 1 := ⟨km_X3_184, kj_X0_sumUp, ks_X0_sumUp, ki_X0, kc_X0_sumUp, by decide +kernel⟩
theorem kc_X3_mix : Cond.code yX3_mix cX3_mix 3 (some .long) ∈ wAll := kAll 417 (by decide +kernel) (by decide +kernel)
theorem kL_X3_227 : Cond.constantLong RX3 227 31 ∈ wAll := kAll 418 (by decide +kernel) (by decide +kernel)
theorem kc_X3_mixTune : Cond.code yX3_mixTune cX3_mixTune 7 (some .long) ∈ wAll := kAll 422 (by decide +kernel) (by decide +kernel)
theorem kf_X3_58 : Cond.fieldLink RX3 58 (TX2 2).1 (TX2 2).2.1 (TX2 2).2.2.1 ∈ wAll := kAll 66 (by decide +kernel) (by decide +kernel)
theorem km_X3_189 : Cond.methodLink RX3 189 yX3_mix ∈ wAll := kAll 415 (by decide +kernel) (by decide +kernel)
theorem kt_X3_mix : Cond.static yX3_mix ∈ wAll := kAll 416 (by decide +kernel) (by decide +kernel)
theorem kl_X3_189 : gLkS RX3 189 yX3_mix cX3_mix 3 (some .long) 2 := ⟨km_X3_189, kt_X3_mix, ki_X3, kc_X3_mix, by decide +kernel⟩
theorem kf_X3_72 : Cond.fieldLink RX3 72 (TX2 0).1 (TX2 0).2.1 (TX2 0).2.2.1 ∈ wAll := kAll 63 (by decide +kernel) (by decide +kernel)
theorem kc_X3_mixStreet : Cond.code yX3_mixStreet cX3_mixStreet 7 (some .long) ∈ wAll := kAll 426 (by decide +kernel) (by decide +kernel)
theorem km_X3_117 : Cond.methodLink RX3 117 yX3_payNow ∈ wAll := kAll 269 (by decide +kernel) (by decide +kernel)
theorem kj_X3_payNow : Cond.instanceMethod yX3_payNow ∈ wAll := kAll 271 (by decide +kernel) (by decide +kernel)
theorem ks_X3_payNow : Cond.selects RX3 yX3_payNow yX3_payNow ∈ wAll := kAll 4 (by decide +kernel) (by decide +kernel)
theorem kl_X3_117 : gLkV RX3 117 RX3 yX3_payNow cX3_payNow 3 (some .int) 2 := ⟨km_X3_117, kj_X3_payNow, ks_X3_payNow, ki_X3, kc_X3_payNow, by decide +kernel⟩
theorem km_X3_160 : Cond.methodLink RX3 160 yX1_tell ∈ wAll := kAll 323 (by decide +kernel) (by decide +kernel)
theorem kj_X1_tell : Cond.instanceMethod yX1_tell ∈ wAll := kAll 324 (by decide +kernel) (by decide +kernel)
theorem ks_X1_tell : Cond.selects RX1 yX1_tell yX1_tell ∈ wAll := kAll 325 (by decide +kernel) (by decide +kernel)
theorem kl_X3_160 : gLkV RX3 160 RX1 yX1_tell cX1_tell 3 (some .int) 2 := ⟨km_X3_160, kj_X1_tell, ks_X1_tell, ki_X1, kc_X1_tell, by decide +kernel⟩
theorem kc_X3_barrel : Cond.code yX3_barrel cX3_barrel 1 (some .int) ∈ wAll := kAll 492 (by decide +kernel) (by decide +kernel)
theorem kk_X3_44 : Cond.classLink RX3 44 "java/lang/IllegalStateException" ∈ wAll := kAll 236 (by decide +kernel) (by decide +kernel)
theorem ki_ISE : Cond.initialized "java/lang/IllegalStateException" ∈ wAll := kAll 18 (by decide +kernel) (by decide +kernel)
theorem kh_ISE_48 : ∀ w ∈ vx_atS RX3 48 "java/lang/IllegalStateException" ["java/lang/RuntimeException", "java/lang/Exception"], w ∈ wAll ∨ w ∈ gNsw := by decide +kernel
theorem kh_ISE_48g : ∀ w ∈ Cond.classLink RX3 44 "java/lang/IllegalStateException" :: Cond.initialized "java/lang/IllegalStateException" :: vx_atS RX3 48 "java/lang/IllegalStateException" ["java/lang/RuntimeException", "java/lang/Exception"], vx_ot w = true := by decide +kernel
theorem kst_46 : (RX3, 46, "there are 6 tunes") ∈ gStr := by decide +kernel
theorem kc_X3_pin : Cond.code yX3_pin cX3_pin 3 (some .int) ∈ wAll := kAll 511 (by decide +kernel) (by decide +kernel)
theorem km_X3_51 : Cond.methodLink RX3 51 yX3_checkTune ∈ wAll := kAll 133 (by decide +kernel) (by decide +kernel)
theorem kj_X3_checkTune : Cond.instanceMethod yX3_checkTune ∈ wAll := kAll 135 (by decide +kernel) (by decide +kernel)
theorem ks_X3_checkTune : Cond.selects RX3 yX3_checkTune yX3_checkTune ∈ wAll := kAll 0 (by decide +kernel) (by decide +kernel)
theorem kl_X3_51 : gLkV RX3 51 RX3 yX3_checkTune cX3_checkTune 2 none 1 := ⟨km_X3_51, kj_X3_checkTune, ks_X3_checkTune, ki_X3, kc_X3_checkTune, by decide +kernel⟩
theorem km_X3_55 : Cond.methodLink RX3 55 yX3_checkPipe ∈ wAll := kAll 305 (by decide +kernel) (by decide +kernel)
theorem kt_X3_checkPipe : Cond.static yX3_checkPipe ∈ wAll := kAll 306 (by decide +kernel) (by decide +kernel)
theorem kl_X3_55 : gLkS RX3 55 yX3_checkPipe cX3_checkPipe 1 none 1 := ⟨km_X3_55, kt_X3_checkPipe, ki_X3, kc_X3_checkPipe, by decide +kernel⟩
theorem km_X3_63 : Cond.methodLink RX3 63 yX2_append ∈ wAll := kAll 513 (by decide +kernel) (by decide +kernel)
theorem kj_X2_append : Cond.instanceMethod yX2_append ∈ wAll := kAll 514 (by decide +kernel) (by decide +kernel)
theorem ks_X2_append : Cond.selects RX2 yX2_append yX2_append ∈ wAll := kAll 515 (by decide +kernel) (by decide +kernel)
theorem kl_X3_63 : gLkV RX3 63 RX2 yX2_append cX2_append 2 (some .int) 1 := ⟨km_X3_63, kj_X2_append, ks_X2_append, ki_X2, kc_X2_append, by decide +kernel⟩
theorem kst_61 : (RX3, 61, "the tune has 16 notes") ∈ gStr := by decide +kernel
theorem kc_X3_note : Cond.code yX3_note cX3_note 3 (some .int) ∈ wAll := kAll 132 (by decide +kernel) (by decide +kernel)
theorem kst_69 : (RX3, 69, "no such place") ∈ gStr := by decide +kernel
theorem kc_X3_street : Cond.code yX3_street cX3_street 3 (some .int) ∈ wAll := kAll 520 (by decide +kernel) (by decide +kernel)
theorem kst_77 : (RX3, 77, "listeners is not 0 to 90") ∈ gStr := by decide +kernel
theorem km_X3_80 : Cond.methodLink RX3 80 yX3_checkPermits ∈ wAll := kAll 522 (by decide +kernel) (by decide +kernel)
theorem kt_X3_checkPermits : Cond.static yX3_checkPermits ∈ wAll := kAll 523 (by decide +kernel) (by decide +kernel)
theorem kl_X3_80 : gLkS RX3 80 yX3_checkPermits cX3_checkPermits 1 none 1 := ⟨km_X3_80, kt_X3_checkPermits, ki_X3, kc_X3_checkPermits, by decide +kernel⟩
theorem kf_X3_88 : Cond.fieldLink RX3 88 (TX1 1).1 (TX1 1).2.1 (TX1 1).2.2.1 ∈ wAll := kAll 84 (by decide +kernel) (by decide +kernel)
theorem kf_X3_91 : Cond.fieldLink RX3 91 (TX1 2).1 (TX1 2).2.1 (TX1 2).2.2.1 ∈ wAll := kAll 86 (by decide +kernel) (by decide +kernel)
theorem kst_86 : (RX3, 86, "there are 8 streets") ∈ gStr := by decide +kernel
theorem kc_X3_permit : Cond.code yX3_permit cX3_permit 4 (some .int) ∈ wAll := kAll 530 (by decide +kernel) (by decide +kernel)
theorem km_X3_94 : Cond.methodLink RX3 94 yX3_checkStreet ∈ wAll := kAll 231 (by decide +kernel) (by decide +kernel)
theorem kj_X3_checkStreet : Cond.instanceMethod yX3_checkStreet ∈ wAll := kAll 233 (by decide +kernel) (by decide +kernel)
theorem ks_X3_checkStreet : Cond.selects RX3 yX3_checkStreet yX3_checkStreet ∈ wAll := kAll 2 (by decide +kernel) (by decide +kernel)
theorem kl_X3_94 : gLkV RX3 94 RX3 yX3_checkStreet cX3_checkStreet 2 none 1 := ⟨km_X3_94, kj_X3_checkStreet, ks_X3_checkStreet, ki_X3, kc_X3_checkStreet, by decide +kernel⟩
theorem kc_X3_setDamp : Cond.code yX3_setDamp cX3_setDamp 4 (some .int) ∈ wAll := kAll 209 (by decide +kernel) (by decide +kernel)
theorem kst_97 : (RX3, 97, "weekday is not 0 to 6") ∈ gStr := by decide +kernel
theorem kst_99 : (RX3, 99, "damp is not 0 to 5") ∈ gStr := by decide +kernel
theorem kc_X3_play : Cond.code yX3_play cX3_play 4 (some .int) ∈ wAll := kAll 230 (by decide +kernel) (by decide +kernel)
theorem km_X3_109 : Cond.methodLink RX3 109 yX1_isPermittedOn ∈ wAll := kAll 258 (by decide +kernel) (by decide +kernel)
theorem kl_X3_109 : gLkV RX3 109 RX1 yX1_isPermittedOn cX1_isPermittedOn 2 (some .boolean) 1 := ⟨km_X3_109, kj_X1_isPermittedOn, ks_X1_isPermittedOn, ki_X1, kc_X1_isPermittedOn, by decide +kernel⟩
theorem kf_X3_121 : Cond.fieldLink RX3 121 (TX1 3).1 (TX1 3).2.1 (TX1 3).2.2.1 ∈ wAll := kAll 88 (by decide +kernel) (by decide +kernel)
theorem kf_X3_124 : Cond.fieldLink RX3 124 (TX1 0).1 (TX1 0).2.1 (TX1 0).2.2.1 ∈ wAll := kAll 82 (by decide +kernel) (by decide +kernel)
theorem km_X3_127 : Cond.methodLink RX3 127 yX2_wearDown ∈ wAll := kAll 293 (by decide +kernel) (by decide +kernel)
theorem kj_X2_wearDown : Cond.instanceMethod yX2_wearDown ∈ wAll := kAll 294 (by decide +kernel) (by decide +kernel)
theorem ks_X2_wearDown : Cond.selects RX2 yX2_wearDown yX2_wearDown ∈ wAll := kAll 295 (by decide +kernel) (by decide +kernel)
theorem kl_X3_127 : gLkV RX3 127 RX2 yX2_wearDown cX2_wearDown 3 none 1 := ⟨km_X3_127, kj_X2_wearDown, ks_X2_wearDown, ki_X2, kc_X2_wearDown, by decide +kernel⟩
theorem km_X3_113 : Cond.methodLink RX3 113 yX3_payFine ∈ wAll := kAll 262 (by decide +kernel) (by decide +kernel)
theorem kj_X3_payFine : Cond.instanceMethod yX3_payFine ∈ wAll := kAll 264 (by decide +kernel) (by decide +kernel)
theorem ks_X3_payFine : Cond.selects RX3 yX3_payFine yX3_payFine ∈ wAll := kAll 3 (by decide +kernel) (by decide +kernel)
theorem kl_X3_113 : gLkV RX3 113 RX3 yX3_payFine cX3_payFine 2 (some .int) 0 := ⟨km_X3_113, kj_X3_payFine, ks_X3_payFine, ki_X3, kc_X3_payFine, by decide +kernel⟩
theorem kst_101 : (RX3, 101, "the tune has no notes") ∈ gStr := by decide +kernel
theorem kc_X3_tune : Cond.code yX3_tune cX3_tune 3 (some .int) ∈ wAll := kAll 536 (by decide +kernel) (by decide +kernel)
theorem kst_131 : (RX3, 131, "by is not -120 to 120") ∈ gStr := by decide +kernel
theorem km_X3_133 : Cond.methodLink RX3 133 yX0_shift ∈ wAll := kAll 538 (by decide +kernel) (by decide +kernel)
theorem kl_X3_133 : gLkV RX3 133 RX0 yX0_shift cX0_shift 3 none 2 := ⟨km_X3_133, kj_X0_shift, ks_X0_shift, ki_X0, kc_X0_shift, by decide +kernel⟩
theorem kf_X3_137 : Cond.fieldLink RX3 137 (TX0 1).1 (TX0 1).2.1 (TX0 1).2.2.1 ∈ wAll := kAll 41 (by decide +kernel) (by decide +kernel)
theorem kc_X3_felt : Cond.code yX3_felt cX3_felt 3 (some .int) ∈ wAll := kAll 542 (by decide +kernel) (by decide +kernel)
theorem kf_X3_142 : Cond.fieldLink RX3 142 (TX0 0).1 (TX0 0).2.1 (TX0 0).2.2.1 ∈ wAll := kAll 39 (by decide +kernel) (by decide +kernel)
theorem kst_140 : (RX3, 140, "there are less than 4 coins") ∈ gStr := by decide +kernel
theorem kc_X3_chase : Cond.code yX3_chase cX3_chase 2 (some .int) ∈ wAll := kAll 548 (by decide +kernel) (by decide +kernel)
theorem km_X3_145 : Cond.methodLink RX3 145 yX0_cricketCount ∈ wAll := kAll 549 (by decide +kernel) (by decide +kernel)
theorem kl_X3_145 : gLkV RX3 145 RX0 yX0_cricketCount cX0_cricketCount 3 (some .int) 0 := ⟨km_X3_145, kj_X0_cricketCount, ks_X0_cricketCount, ki_X0, kc_X0_cricketCount, by decide +kernel⟩
theorem km_X3_148 : Cond.methodLink RX3 148 yX0_clearCrickets ∈ wAll := kAll 550 (by decide +kernel) (by decide +kernel)
theorem kj_X0_clearCrickets : Cond.instanceMethod yX0_clearCrickets ∈ wAll := kAll 551 (by decide +kernel) (by decide +kernel)
theorem ks_X0_clearCrickets : Cond.selects RX0 yX0_clearCrickets yX0_clearCrickets ∈ wAll := kAll 552 (by decide +kernel) (by decide +kernel)
theorem kl_X3_148 : gLkV RX3 148 RX0 yX0_clearCrickets cX0_clearCrickets 2 none 0 := ⟨km_X3_148, kj_X0_clearCrickets, ks_X0_clearCrickets, ki_X0, kc_X0_clearCrickets, by decide +kernel⟩
theorem kc_X3_pipe : Cond.code yX3_pipe cX3_pipe 3 (some .int) ∈ wAll := kAll 304 (by decide +kernel) (by decide +kernel)
theorem kst_151 : (RX3, 151, "what is not 0 to 4") ∈ gStr := by decide +kernel
theorem km_X3_153 : Cond.methodLink RX3 153 yX0_tell ∈ wAll := kAll 310 (by decide +kernel) (by decide +kernel)
theorem kj_X0_tell : Cond.instanceMethod yX0_tell ∈ wAll := kAll 311 (by decide +kernel) (by decide +kernel)
theorem ks_X0_tell : Cond.selects RX0 yX0_tell yX0_tell ∈ wAll := kAll 312 (by decide +kernel) (by decide +kernel)
theorem kl_X3_153 : gLkV RX3 153 RX0 yX0_tell cX0_tell 3 (some .int) 2 := ⟨km_X3_153, kj_X0_tell, ks_X0_tell, ki_X0, kc_X0_tell, by decide +kernel⟩
theorem kc_X3_sound : Cond.code yX3_sound cX3_sound 2 (some .int) ∈ wAll := kAll 318 (by decide +kernel) (by decide +kernel)
theorem kc_X3_told : Cond.code yX3_told cX3_told 3 (some .int) ∈ wAll := kAll 322 (by decide +kernel) (by decide +kernel)
theorem kc_X3_count : Cond.code yX3_count cX3_count 2 (some .int) ∈ wAll := kAll 335 (by decide +kernel) (by decide +kernel)
theorem kst_161 : (RX3, 161, "what is not 0 to 8") ∈ gStr := by decide +kernel
theorem km_X3_163 : Cond.methodLink RX3 163 yX3_countNow ∈ wAll := kAll 337 (by decide +kernel) (by decide +kernel)
theorem kj_X3_countNow : Cond.instanceMethod yX3_countNow ∈ wAll := kAll 339 (by decide +kernel) (by decide +kernel)
theorem ks_X3_countNow : Cond.selects RX3 yX3_countNow yX3_countNow ∈ wAll := kAll 5 (by decide +kernel) (by decide +kernel)
theorem kl_X3_163 : gLkV RX3 163 RX3 yX3_countNow cX3_countNow 2 (some .int) 1 := ⟨km_X3_163, kj_X3_countNow, ks_X3_countNow, ki_X3, kc_X3_countNow, by decide +kernel⟩
theorem kc_X3_rest : Cond.code yX3_rest cX3_rest 4 (some .int) ∈ wAll := kAll 360 (by decide +kernel) (by decide +kernel)
theorem km_X3_166 : Cond.methodLink RX3 166 yX3_checkNights ∈ wAll := kAll 361 (by decide +kernel) (by decide +kernel)
theorem kt_X3_checkNights : Cond.static yX3_checkNights ∈ wAll := kAll 362 (by decide +kernel) (by decide +kernel)
theorem kl_X3_166 : gLkS RX3 166 yX3_checkNights cX3_checkNights 1 none 1 := ⟨km_X3_166, kt_X3_checkNights, ki_X3, kc_X3_checkNights, by decide +kernel⟩
theorem km_X3_169 : Cond.methodLink RX3 169 yX3_passNights ∈ wAll := kAll 365 (by decide +kernel) (by decide +kernel)
theorem kj_X3_passNights : Cond.instanceMethod yX3_passNights ∈ wAll := kAll 367 (by decide +kernel) (by decide +kernel)
theorem ks_X3_passNights : Cond.selects RX3 yX3_passNights yX3_passNights ∈ wAll := kAll 6 (by decide +kernel) (by decide +kernel)
theorem kl_X3_169 : gLkV RX3 169 RX3 yX3_passNights cX3_passNights 5 (some .int) 2 := ⟨km_X3_169, kj_X3_passNights, ks_X3_passNights, ki_X3, kc_X3_passNights, by decide +kernel⟩
theorem km_X3_173 : Cond.methodLink RX3 173 yX1_forgetDay ∈ wAll := kAll 380 (by decide +kernel) (by decide +kernel)
theorem kj_X1_forgetDay : Cond.instanceMethod yX1_forgetDay ∈ wAll := kAll 381 (by decide +kernel) (by decide +kernel)
theorem ks_X1_forgetDay : Cond.selects RX1 yX1_forgetDay yX1_forgetDay ∈ wAll := kAll 382 (by decide +kernel) (by decide +kernel)
theorem kl_X3_173 : gLkV RX3 173 RX1 yX1_forgetDay cX1_forgetDay 2 none 0 := ⟨km_X3_173, kj_X1_forgetDay, ks_X1_forgetDay, ki_X1, kc_X1_forgetDay, by decide +kernel⟩
theorem kc_X3_pays : Cond.code yX3_pays cX3_pays 3 (some .int) ∈ wAll := kAll 387 (by decide +kernel) (by decide +kernel)
theorem kc_X3_best : Cond.code yX3_best cX3_best 6 (some .int) ∈ wAll := kAll 391 (by decide +kernel) (by decide +kernel)
theorem kc_X3_worst : Cond.code yX3_worst cX3_worst 6 (some .int) ∈ wAll := kAll 395 (by decide +kernel) (by decide +kernel)
theorem km_X3_176 : Cond.methodLink RX3 176 yX2_soundSparing ∈ wAll := kAll 396 (by decide +kernel) (by decide +kernel)
theorem kl_X3_176 : gLkV RX3 176 RX2 yX2_soundSparing cX2_soundSparing 5 (some .int) 2 := ⟨km_X3_176, kj_X2_soundSparing, ks_X2_soundSparing, ki_X2, kc_X2_soundSparing, by decide +kernel⟩
theorem kc_X3_foresee : Cond.code yX3_foresee cX3_foresee 3 (some .int) ∈ wAll := kAll 400 (by decide +kernel) (by decide +kernel)
theorem kst_179 : (RX3, 179, "what is not 5 to 7") ∈ gStr := by decide +kernel
theorem kf_X3_16 : Cond.fieldLink RX3 16 (TX3 1).1 (TX3 1).2.1 (TX3 1).2.2.1 ∈ wAll := kAll 99 (by decide +kernel) (by decide +kernel)
theorem km_X3_181 : Cond.methodLink RX3 181 yX0_become ∈ wAll := kAll 402 (by decide +kernel) (by decide +kernel)
theorem kj_X0_become : Cond.instanceMethod yX0_become ∈ wAll := kAll 403 (by decide +kernel) (by decide +kernel)
theorem ks_X0_become : Cond.selects RX0 yX0_become yX0_become ∈ wAll := kAll 404 (by decide +kernel) (by decide +kernel)
theorem kl_X3_181 : gLkV RX3 181 RX0 yX0_become cX0_become 3 none 1 := ⟨km_X3_181, kj_X0_become, ks_X0_become, ki_X0, kc_X0_become, by decide +kernel⟩
theorem kc_X3_lasts : Cond.code yX3_lasts cX3_lasts 3 (some .int) ∈ wAll := kAll 409 (by decide +kernel) (by decide +kernel)
theorem kc_X3_mean : Cond.code yX3_mean cX3_mean 3 (some .double) ∈ wAll := kAll 472 (by decide +kernel) (by decide +kernel)
theorem kc_X3_digest : Cond.code yX3_digest cX3_digest 5 (some .long) ∈ wAll := kAll 413 (by decide +kernel) (by decide +kernel)
theorem kL_X3_187 : Cond.constantLong RX3 187 1097 ∈ wAll := kAll 414 (by decide +kernel) (by decide +kernel)
theorem km_X3_197 : Cond.methodLink RX3 197 yX3_mixStreet ∈ wAll := kAll 423 (by decide +kernel) (by decide +kernel)
theorem kj_X3_mixStreet : Cond.instanceMethod yX3_mixStreet ∈ wAll := kAll 425 (by decide +kernel) (by decide +kernel)
theorem ks_X3_mixStreet : Cond.selects RX3 yX3_mixStreet yX3_mixStreet ∈ wAll := kAll 8 (by decide +kernel) (by decide +kernel)
theorem kl_X3_197 : gLkV RX3 197 RX3 yX3_mixStreet cX3_mixStreet 7 (some .long) 2 := ⟨km_X3_197, kj_X3_mixStreet, ks_X3_mixStreet, ki_X3, kc_X3_mixStreet, by decide +kernel⟩
theorem km_X3_193 : Cond.methodLink RX3 193 yX3_mixTune ∈ wAll := kAll 419 (by decide +kernel) (by decide +kernel)
theorem kj_X3_mixTune : Cond.instanceMethod yX3_mixTune ∈ wAll := kAll 421 (by decide +kernel) (by decide +kernel)
theorem ks_X3_mixTune : Cond.selects RX3 yX3_mixTune yX3_mixTune ∈ wAll := kAll 7 (by decide +kernel) (by decide +kernel)
theorem kl_X3_193 : gLkV RX3 193 RX3 yX3_mixTune cX3_mixTune 7 (some .long) 2 := ⟨km_X3_193, kj_X3_mixTune, ks_X3_mixTune, ki_X3, kc_X3_mixTune, by decide +kernel⟩
end
section
set_option maxHeartbeats 1000000 in
set_option maxRecDepth 100000 in
theorem c_X0_harmOf (l : Launch) (D : va_G) (cy : Nat → ClassId) (ad : Nat → Nat) (ρ : Nat → Nat → Int32) (b i : Nat) (hb : isP b) (hi : i < 12) : gMI l yX0_harmOf cX0_harmOf 2 (some .int) { frames := 1, cells := 0, slots := 0, locals := 21 } D cy 48 ad (cC ad cy) [.ref (ad b), .int (nI i)] ρ (fun r ρ1 => r = hP ρ b i ∧ ρ1 = ρ) 0 0 := by
  refine gMI_of (ls := [(0, .ref (ad b)), (1, .int (nI i))]) RX0 rfl (by decide +kernel) (Nat.le_of_ble_eq_true rfl) rfl ?_
  intro p e s m args below meth c A X hr hlk hnm
  have hb9 := isP_lt hb
  refine g_aload_n X dX0_harmOf_0 0 rfl rfl ?_
  refine g_getr X b (by omega) 2 (by decide) ku_X0 kv_X0 kf_X0_18 rfl (lC_f_cri hb) dX0_harmOf_1 ?_
  refine g_iload_n X dX0_harmOf_4 1 rfl rfl ?_
  refine g_zaldN X (b + 3) i (by omega) (lC_cri hb) (by omega) (by decide) dX0_harmOf_5 ?_
  refine g_if_eq X 12 dX0_harmOf_6 (by decide) (fun c_1 => ?_) (fun c_1 => ?_)
  · skip
    refine g_bipush X (v := 60) dX0_harmOf_12 (by decide) ?_
    refine g_aload_n X dX0_harmOf_14 0 rfl rfl ?_
    refine g_getr X b (by omega) 1 (by decide) ku_X0 kv_X0 kf_X0_15 rfl (lC_f_off hb) dX0_harmOf_15 ?_
    refine g_iload_n X dX0_harmOf_18 1 rfl rfl ?_
    refine g_ialdN X (b + 2) i (by omega) (lC_off hb) (by omega) (by decide) dX0_harmOf_19 ?_
    refine g_mabs X km_X0_25 kt_mabs ki_math kc_mabs ⟨Nat.le_of_ble_eq_true rfl, Nat.le_of_ble_eq_true rfl, by omega, by omega⟩ dX0_harmOf_20 ?_
    refine g_iconst X (v := 2) dX0_harmOf_23 (by decide) ?_
    refine g_aload_n X dX0_harmOf_24 0 rfl rfl ?_
    refine g_getr X b (by omega) 0 (by decide) ku_X0 kv_X0 kf_X0_9 rfl (lC_f_worn hb) dX0_harmOf_25 ?_
    refine g_iload_n X dX0_harmOf_28 1 rfl rfl ?_
    refine g_ialdN X (b + 1) i (by omega) (lC_worn hb) (by omega) (by decide) dX0_harmOf_29 ?_
    refine g_imul X dX0_harmOf_30 ?_
    refine g_iadd X dX0_harmOf_31 ?_
    refine g_mmin X km_X0_31 kt_mmin ki_math kc_mmin ⟨Nat.le_of_ble_eq_true rfl, Nat.le_of_ble_eq_true rfl, by omega, by omega⟩ dX0_harmOf_32 ?_
    exact g_iret X hr hlk (by omega) (by omega) dX0_harmOf_35 (⟨by simp only [hP, hm]; rw [if_pos c_1]; rfl, rfl⟩)
  · skip
    refine g_bipush X (v := 60) dX0_harmOf_9 (by decide) ?_
    exact g_iret X hr hlk (by omega) (by omega) dX0_harmOf_11 (⟨by simp only [hP, hm]; rw [if_neg c_1], rfl⟩)

set_option maxHeartbeats 1000000 in
set_option maxRecDepth 100000 in
theorem c_X0_wear (l : Launch) (D : va_G) (cy : Nat → ClassId) (ad : Nat → Nat) (ρ : Nat → Nat → Int32) (b i : Nat) (y : Int32) (hb : isP b) (hi : i < 12) : gMV l yX0_wear cX0_wear 3 none { frames := 1, cells := 0, slots := 0, locals := 21 } D cy 48 ad (cC ad cy) [.ref (ad b), .int (nI i), .int y] ρ (fun ρ1 => ρ1 = up2 (up2 ρ (b + 1) i (mnI 30 (ρ (b + 1) i + y))) (b + 4) i 1) 0 0 := by
  refine gMV_of (ls := [(0, .ref (ad b)), (1, .int (nI i)), (2, .int y)]) RX0 rfl (by decide +kernel) (Nat.le_of_ble_eq_true rfl) rfl ?_
  intro p e s m args below meth c A X hr hlk hnm
  have hb9 := isP_lt hb
  refine g_aload_n X dX0_wear_0 0 rfl rfl ?_
  refine g_getr X b (by omega) 0 (by decide) ku_X0 kv_X0 kf_X0_9 rfl (lC_f_worn hb) dX0_wear_1 ?_
  refine g_iload_n X dX0_wear_4 1 rfl rfl ?_
  refine g_bipush X (v := 30) dX0_wear_5 (by decide) ?_
  refine g_aload_n X dX0_wear_7 0 rfl rfl ?_
  refine g_getr X b (by omega) 0 (by decide) ku_X0 kv_X0 kf_X0_9 rfl (lC_f_worn hb) dX0_wear_8 ?_
  refine g_iload_n X dX0_wear_11 1 rfl rfl ?_
  refine g_ialdN X (b + 1) i (by omega) (lC_worn hb) (by omega) (by decide) dX0_wear_12 ?_
  refine g_iload_n X dX0_wear_13 2 rfl rfl ?_
  refine g_iadd X dX0_wear_14 ?_
  refine g_mmin X km_X0_31 kt_mmin ki_math kc_mmin ⟨Nat.le_of_ble_eq_true rfl, Nat.le_of_ble_eq_true rfl, by omega, by omega⟩ dX0_wear_15 ?_
  refine g_iastN X (b + 1) i (by omega) (lC_worn hb) (by omega) (by decide) dX0_wear_18 (fun ρ_1 eρ_1 => ?_)
  refine g_aload_n X dX0_wear_19 0 rfl rfl ?_
  refine g_getr X b (by omega) 3 (by decide) ku_X0 kv_X0 kf_X0_22 rfl (lC_f_pla hb) dX0_wear_20 ?_
  refine g_iload_n X dX0_wear_23 1 rfl rfl ?_
  refine g_iconst X (v := 1) dX0_wear_24 (by decide) ?_
  refine g_zastN X (b + 4) i (by omega) (lC_pla hb) vp_z1 (by omega) (by decide) dX0_wear_25 (fun ρ_2 eρ_2 => ?_)
  exact g_vret X hr hlk (by omega) (by omega) dX0_wear_26 (by subst_vars; first | rfl | exact ⟨rfl, rfl⟩)

set_option maxHeartbeats 1000000 in
set_option maxRecDepth 100000 in
theorem c_X0_shift (l : Launch) (D : va_G) (cy : Nat → ClassId) (ad : Nat → Nat) (ρ : Nat → Nat → Int32) (b i : Nat) (y : Int32) (hb : isP b) (hi : i < 12) : gMV l yX0_shift cX0_shift 3 none { frames := 1, cells := 0, slots := 0, locals := 21 } D cy 48 ad (cC ad cy) [.ref (ad b), .int (nI i), .int y] ρ (fun ρ1 => ρ1 = up2 ρ (b + 2) i (hd (ρ (b + 2) i + y))) 0 0 := by
  refine gMV_of (ls := [(0, .ref (ad b)), (1, .int (nI i)), (2, .int y)]) RX0 rfl (by decide +kernel) (Nat.le_of_ble_eq_true rfl) rfl ?_
  intro p e s m args below meth c A X hr hlk hnm
  have hb9 := isP_lt hb
  refine g_aload_n X dX0_shift_0 0 rfl rfl ?_
  refine g_getr X b (by omega) 1 (by decide) ku_X0 kv_X0 kf_X0_15 rfl (lC_f_off hb) dX0_shift_1 ?_
  refine g_iload_n X dX0_shift_4 1 rfl rfl ?_
  refine g_bipush X (v := -60) dX0_shift_5 (by decide) ?_
  refine g_bipush X (v := 60) dX0_shift_7 (by decide) ?_
  refine g_aload_n X dX0_shift_9 0 rfl rfl ?_
  refine g_getr X b (by omega) 1 (by decide) ku_X0 kv_X0 kf_X0_15 rfl (lC_f_off hb) dX0_shift_10 ?_
  refine g_iload_n X dX0_shift_13 1 rfl rfl ?_
  refine g_ialdN X (b + 2) i (by omega) (lC_off hb) (by omega) (by decide) dX0_shift_14 ?_
  refine g_iload_n X dX0_shift_15 2 rfl rfl ?_
  refine g_iadd X dX0_shift_16 ?_
  refine g_mmin X km_X0_31 kt_mmin ki_math kc_mmin ⟨Nat.le_of_ble_eq_true rfl, Nat.le_of_ble_eq_true rfl, by omega, by omega⟩ dX0_shift_17 ?_
  refine g_mmax X km_X0_35 kt_mmax ki_math kc_mmax ⟨Nat.le_of_ble_eq_true rfl, Nat.le_of_ble_eq_true rfl, by omega, by omega⟩ dX0_shift_20 ?_
  refine g_iastN X (b + 2) i (by omega) (lC_off hb) (by omega) (by decide) dX0_shift_23 (fun ρ_1 eρ_1 => ?_)
  exact g_vret X hr hlk (by omega) (by omega) dX0_shift_24 (by subst_vars; first | rfl | exact ⟨rfl, rfl⟩)

set_option maxHeartbeats 1000000 in
set_option maxRecDepth 100000 in
theorem c_X0_become (l : Launch) (D : va_G) (cy : Nat → ClassId) (ad : Nat → Nat) (ρ : Nat → Nat → Int32) (h01 : ∀ j, j < 12 → (ρ 4 j = 0 ∨ ρ 4 j = 1) ∧ (ρ 5 j = 0 ∨ ρ 5 j = 1)) : gMV l yX0_become cX0_become 3 none { frames := 0, cells := 0, slots := 0, locals := 0 } D cy 48 ad (cC ad cy) [.ref (ad 6), .ref (ad 1)] ρ (fun ρ1 => ρ1 = becR ρ 12) 0 0 := by
  refine gMV_of (ls := [(0, .ref (ad 6)), (1, .ref (ad 1))]) RX0 rfl (by decide +kernel) (Nat.le_of_ble_eq_true rfl) rfl ?_
  intro p e s m args below meth c A X hr hlk hnm
  refine g_iconst X (v := 0) dX0_become_0 (by decide) ?_
  refine g_istore_n X [(2, .int _), (0, .ref _), (1, .ref _)] dX0_become_1 rfl (by decide) rfl ?_
  refine g_ls (ls' := [(0, .ref _), (1, .ref _), (2, .int _)]) [1, 2, 0] rfl ?_
  refine g_loop (fun _ => True) (fun i => becR ρ i) (fun i => [(0, .ref (ad 6)), (1, .ref (ad 1)), (2, .int (nI i))]) (fun _ => 0) (fun _ => 0) 12 0 trivial (by omega) rfl (by funext k j; simp [becR]) rfl rfl (fun i h0i hi hIi ihi => ?_)
  obtain ⟨ρ_1, eρ_1⟩ : ∃ ρz, ρz = becR ρ i := ⟨_, rfl⟩
  rw [← eρ_1]
  refine g_iload_n X dX0_become_2 2 rfl rfl ?_
  refine g_bipush X (v := 12) dX0_become_3 (by decide) ?_
  refine g_icmp_geN X i 12 62 (by omega) (by omega) dX0_become_5 (by decide) (fun c_2 => ?_) (fun c_2 => ?_)
  · skip
    exact g_vret X hr hlk (by omega) (by omega) dX0_become_62 (by subst_vars; rw [show i = 12 by omega])
  · skip
    refine g_aload_n X dX0_become_8 0 rfl rfl ?_
    refine g_getr X 6 (by omega) 0 (by decide) ku_X0 kv_X0 kf_X0_9 rfl (lC_f_worn (Or.inr rfl)) dX0_become_9 ?_
    refine g_iload_n X dX0_become_12 2 rfl rfl ?_
    refine g_aload_n X dX0_become_13 1 rfl rfl ?_
    refine g_getr X 1 (by omega) 0 (by decide) ku_X0 kv_X0 kf_X0_9 rfl (lC_f_worn (Or.inl rfl)) dX0_become_14 ?_
    refine g_iload_n X dX0_become_17 2 rfl rfl ?_
    refine g_ialdN X (1 + 1) i (by omega) (lC_worn (Or.inl rfl)) (by omega) (by decide) dX0_become_18 ?_
    refine g_iastN X (6 + 1) i (by omega) (lC_worn (Or.inr rfl)) (by omega) (by decide) dX0_become_19 (fun ρ_3 eρ_3 => ?_)
    refine g_aload_n X dX0_become_20 0 rfl rfl ?_
    refine g_getr X 6 (by omega) 1 (by decide) ku_X0 kv_X0 kf_X0_15 rfl (lC_f_off (Or.inr rfl)) dX0_become_21 ?_
    refine g_iload_n X dX0_become_24 2 rfl rfl ?_
    refine g_aload_n X dX0_become_25 1 rfl rfl ?_
    refine g_getr X 1 (by omega) 1 (by decide) ku_X0 kv_X0 kf_X0_15 rfl (lC_f_off (Or.inl rfl)) dX0_become_26 ?_
    refine g_iload_n X dX0_become_29 2 rfl rfl ?_
    refine g_ialdN X (1 + 2) i (by omega) (lC_off (Or.inl rfl)) (by omega) (by decide) dX0_become_30 ?_
    refine g_iastN X (6 + 2) i (by omega) (lC_off (Or.inr rfl)) (by omega) (by decide) dX0_become_31 (fun ρ_4 eρ_4 => ?_)
    refine g_aload_n X dX0_become_32 0 rfl rfl ?_
    refine g_getr X 6 (by omega) 2 (by decide) ku_X0 kv_X0 kf_X0_18 rfl (lC_f_cri (Or.inr rfl)) dX0_become_33 ?_
    refine g_iload_n X dX0_become_36 2 rfl rfl ?_
    refine g_aload_n X dX0_become_37 1 rfl rfl ?_
    refine g_getr X 1 (by omega) 2 (by decide) ku_X0 kv_X0 kf_X0_18 rfl (lC_f_cri (Or.inl rfl)) dX0_become_38 ?_
    refine g_iload_n X dX0_become_41 2 rfl rfl ?_
    refine g_zaldN X (1 + 3) i (by omega) (lC_cri (Or.inl rfl)) (by omega) (by decide) dX0_become_42 ?_
    refine g_zastN X (6 + 3) i (by omega) (lC_cri (Or.inr rfl)) (vp_z01 (by subst_vars; simp only [up2_e, becR]; have := h01 i (by omega); simp; exact this.1)) (by omega) (by decide) dX0_become_43 (fun ρ_5 eρ_5 => ?_)
    refine g_aload_n X dX0_become_44 0 rfl rfl ?_
    refine g_getr X 6 (by omega) 3 (by decide) ku_X0 kv_X0 kf_X0_22 rfl (lC_f_pla (Or.inr rfl)) dX0_become_45 ?_
    refine g_iload_n X dX0_become_48 2 rfl rfl ?_
    refine g_aload_n X dX0_become_49 1 rfl rfl ?_
    refine g_getr X 1 (by omega) 3 (by decide) ku_X0 kv_X0 kf_X0_22 rfl (lC_f_pla (Or.inl rfl)) dX0_become_50 ?_
    refine g_iload_n X dX0_become_53 2 rfl rfl ?_
    refine g_zaldN X (1 + 4) i (by omega) (lC_pla (Or.inl rfl)) (by omega) (by decide) dX0_become_54 ?_
    refine g_zastN X (6 + 4) i (by omega) (lC_pla (Or.inr rfl)) (vp_z01 (by subst_vars; simp only [up2_e, becR]; have := h01 i (by omega); simp; exact this.2)) (by omega) (by decide) dX0_become_55 (fun ρ_6 eρ_6 => ?_)
    refine g_iincN X i 2 [(2, .int _), (0, .ref _), (1, .ref _)] 2 dX0_become_56 rfl (by decide) rfl ?_
    refine g_goto X 2 dX0_become_59 (by decide) ?_
    refine g_ls (ls' := [(0, .ref _), (1, .ref _), (2, .int _)]) [1, 2, 0] rfl ?_
    exact g_eqv (ihi (by omega) trivial) (rfl) (by subst_vars; funext k j; simp only [up2_e, becR]; grind) rfl rfl

set_option maxHeartbeats 1000000 in
set_option maxRecDepth 100000 in
theorem c_X0_passNight (l : Launch) (D : va_G) (cy : Nat → ClassId) (ad : Nat → Nat) (ρ : Nat → Nat → Int32) (b : Nat) (d : Int32) (hb : isP b) : gMI l yX0_passNight cX0_passNight 4 (some .int) { frames := 2, cells := 0, slots := 0, locals := 43 } D cy 48 ad (cC ad cy) [.ref (ad b), .int d] ρ (fun r ρ1 => r = sumI (cmB ρ b) 12 ∧ ρ1 = ntR ρ b d 12) 0 0 := by
  refine gMI_of (ls := [(0, .ref (ad b)), (1, .int d)]) RX0 rfl (by decide +kernel) (Nat.le_of_ble_eq_true rfl) rfl ?_
  intro p e s m args below meth c A X hr hlk hnm
  have hb9 := isP_lt hb
  refine g_iconst X (v := 0) dX0_passNight_0 (by decide) ?_
  refine g_istore_n X [(2, .int _), (0, .ref _), (1, .int _)] dX0_passNight_1 rfl (by decide) rfl ?_
  refine g_iconst X (v := 0) dX0_passNight_2 (by decide) ?_
  refine g_istore_n X [(3, .int _), (2, .int _), (0, .ref _), (1, .int _)] dX0_passNight_3 rfl (by decide) rfl ?_
  refine g_ls (ls' := [(0, .ref _), (1, .int _), (2, .int _), (3, .int _)]) [2, 3, 1, 0] rfl ?_
  refine g_loop (fun _ => True) (fun i => ntR ρ b d i) (fun i => [(0, .ref (ad b)), (1, .int d), (2, .int (sumI (cmB ρ b) i)), (3, .int (nI i))]) (fun _ => 0) (fun _ => 0) 12 0 trivial (by omega) rfl (by funext k j; simp [ntR]) rfl rfl (fun i h0i hi hIi ihi => ?_)
  obtain ⟨ρ_1, eρ_1⟩ : ∃ ρz, ρz = ntR ρ b d i := ⟨_, rfl⟩
  rw [← eρ_1]
  refine g_iload_n X dX0_passNight_4 3 rfl rfl ?_
  refine g_bipush X (v := 12) dX0_passNight_5 (by decide) ?_
  refine g_icmp_geN X i 12 79 (by omega) (by omega) dX0_passNight_7 (by decide) (fun c_2 => ?_) (fun c_2 => ?_)
  · skip
    refine g_iload_n X dX0_passNight_79 2 rfl rfl ?_
    exact g_iret X hr hlk (by omega) (by omega) dX0_passNight_80 (by subst_vars; rw [show i = 12 by omega]; exact ⟨rfl, rfl⟩)
  · skip
    refine g_aload_n X dX0_passNight_10 0 rfl rfl ?_
    refine g_getr X b (by omega) 0 (by decide) ku_X0 kv_X0 kf_X0_9 rfl (lC_f_worn hb) dX0_passNight_11 ?_
    refine g_iload_n X dX0_passNight_14 3 rfl rfl ?_
    refine g_ialdN X (b + 1) i (by omega) (lC_worn hb) (by omega) (by decide) dX0_passNight_15 ?_
    rw [show ρ_1 (b + 1) i = ρ (b + 1) i by subst_vars; simp [ntR]]
    refine g_bipush X (v := 10) dX0_passNight_16 (by decide) ?_
    refine g_icmp_lt X 49 dX0_passNight_18 (by decide) (fun c_3 => ?_) (fun c_3 => ?_)
    · skip
      refine g_aload_n X dX0_passNight_49 0 rfl rfl ?_
      refine g_iload_n X dX0_passNight_50 3 rfl rfl ?_
      refine g_iload_n X dX0_passNight_51 3 rfl rfl ?_
      refine g_iconst X (v := 2) dX0_passNight_52 (by decide) ?_
      refine g_irem X dX0_passNight_53 (by decide) ?_
      rw [remN (by omega)]
      refine g_if_ne X 61 dX0_passNight_54 (by decide) (fun c_4 => ?_) (fun c_4 => ?_)
      · skip
        refine g_iload_n X dX0_passNight_61 1 rfl rfl ?_
        refine g_ineg X dX0_passNight_62 ?_
        refine g_mcallVv X b (c_X0_shift l D cy ad ρ_1 b i _ hb (by omega)) kl_X0_38 ⟨rfl, rfl, Nat.le_of_ble_eq_true rfl, Nat.le_of_ble_eq_true rfl⟩ (by omega) (lC_P hb) kv_X0 rfl rfl (Nat.le_of_ble_eq_true rfl) dX0_passNight_63 ⟨Nat.le_of_ble_eq_true rfl, Nat.le_of_ble_eq_true rfl⟩ (fun ρ_5 h_7 => ?_)
        refine g_aload_n X dX0_passNight_66 0 rfl rfl ?_
        refine g_getr X b (by omega) 3 (by decide) ku_X0 kv_X0 kf_X0_22 rfl (lC_f_pla hb) dX0_passNight_67 ?_
        refine g_iload_n X dX0_passNight_70 3 rfl rfl ?_
        refine g_iconst X (v := 0) dX0_passNight_71 (by decide) ?_
        refine g_zastN X (b + 4) i (by omega) (lC_pla hb) vp_z0 (by omega) (by decide) dX0_passNight_72 (fun ρ_8 eρ_8 => ?_)
        refine g_iincN X i 3 [(3, .int _), (0, .ref _), (1, .int _), (2, .int _)] 3 dX0_passNight_73 rfl (by decide) rfl ?_
        refine g_goto X 4 dX0_passNight_76 (by decide) ?_
        refine g_ls (ls' := [(0, .ref _), (1, .int _), (2, .int _), (3, .int _)]) [1, 2, 3, 0] rfl ?_
        exact g_eqv (ihi (by omega) trivial) (by simp only [sumI, cmB, *, ↓reduceIte, Int32.add_zero]) (by subst_vars; funext k j; simp only [up2_e, ntR, cmB, par] at *; grind) rfl rfl
      · skip
        refine g_iload_n X dX0_passNight_57 1 rfl rfl ?_
        refine g_goto X 63 dX0_passNight_58 (by decide) ?_
        refine g_mcallVv X b (c_X0_shift l D cy ad ρ_1 b i _ hb (by omega)) kl_X0_38 ⟨rfl, rfl, Nat.le_of_ble_eq_true rfl, Nat.le_of_ble_eq_true rfl⟩ (by omega) (lC_P hb) kv_X0 rfl rfl (Nat.le_of_ble_eq_true rfl) dX0_passNight_63 ⟨Nat.le_of_ble_eq_true rfl, Nat.le_of_ble_eq_true rfl⟩ (fun ρ_9 h_11 => ?_)
        refine g_aload_n X dX0_passNight_66 0 rfl rfl ?_
        refine g_getr X b (by omega) 3 (by decide) ku_X0 kv_X0 kf_X0_22 rfl (lC_f_pla hb) dX0_passNight_67 ?_
        refine g_iload_n X dX0_passNight_70 3 rfl rfl ?_
        refine g_iconst X (v := 0) dX0_passNight_71 (by decide) ?_
        refine g_zastN X (b + 4) i (by omega) (lC_pla hb) vp_z0 (by omega) (by decide) dX0_passNight_72 (fun ρ_12 eρ_12 => ?_)
        refine g_iincN X i 3 [(3, .int _), (0, .ref _), (1, .int _), (2, .int _)] 3 dX0_passNight_73 rfl (by decide) rfl ?_
        refine g_goto X 4 dX0_passNight_76 (by decide) ?_
        refine g_ls (ls' := [(0, .ref _), (1, .int _), (2, .int _), (3, .int _)]) [1, 2, 3, 0] rfl ?_
        exact g_eqv (ihi (by omega) trivial) (by simp only [sumI, cmB, *, ↓reduceIte, Int32.add_zero]) (by subst_vars; funext k j; simp only [up2_e, ntR, cmB, par] at *; grind) rfl rfl
    · skip
      refine g_aload_n X dX0_passNight_21 0 rfl rfl ?_
      refine g_getr X b (by omega) 3 (by decide) ku_X0 kv_X0 kf_X0_22 rfl (lC_f_pla hb) dX0_passNight_22 ?_
      refine g_iload_n X dX0_passNight_25 3 rfl rfl ?_
      refine g_zaldN X (b + 4) i (by omega) (lC_pla hb) (by omega) (by decide) dX0_passNight_26 ?_
      rw [show ρ_1 (b + 4) i = ρ (b + 4) i by subst_vars; simp [ntR]]
      refine g_if_ne X 49 dX0_passNight_27 (by decide) (fun c_13 => ?_) (fun c_13 => ?_)
      · skip
        refine g_aload_n X dX0_passNight_49 0 rfl rfl ?_
        refine g_iload_n X dX0_passNight_50 3 rfl rfl ?_
        refine g_iload_n X dX0_passNight_51 3 rfl rfl ?_
        refine g_iconst X (v := 2) dX0_passNight_52 (by decide) ?_
        refine g_irem X dX0_passNight_53 (by decide) ?_
        rw [remN (by omega)]
        refine g_if_ne X 61 dX0_passNight_54 (by decide) (fun c_14 => ?_) (fun c_14 => ?_)
        · skip
          refine g_iload_n X dX0_passNight_61 1 rfl rfl ?_
          refine g_ineg X dX0_passNight_62 ?_
          refine g_mcallVv X b (c_X0_shift l D cy ad ρ_1 b i _ hb (by omega)) kl_X0_38 ⟨rfl, rfl, Nat.le_of_ble_eq_true rfl, Nat.le_of_ble_eq_true rfl⟩ (by omega) (lC_P hb) kv_X0 rfl rfl (Nat.le_of_ble_eq_true rfl) dX0_passNight_63 ⟨Nat.le_of_ble_eq_true rfl, Nat.le_of_ble_eq_true rfl⟩ (fun ρ_15 h_17 => ?_)
          refine g_aload_n X dX0_passNight_66 0 rfl rfl ?_
          refine g_getr X b (by omega) 3 (by decide) ku_X0 kv_X0 kf_X0_22 rfl (lC_f_pla hb) dX0_passNight_67 ?_
          refine g_iload_n X dX0_passNight_70 3 rfl rfl ?_
          refine g_iconst X (v := 0) dX0_passNight_71 (by decide) ?_
          refine g_zastN X (b + 4) i (by omega) (lC_pla hb) vp_z0 (by omega) (by decide) dX0_passNight_72 (fun ρ_18 eρ_18 => ?_)
          refine g_iincN X i 3 [(3, .int _), (0, .ref _), (1, .int _), (2, .int _)] 3 dX0_passNight_73 rfl (by decide) rfl ?_
          refine g_goto X 4 dX0_passNight_76 (by decide) ?_
          refine g_ls (ls' := [(0, .ref _), (1, .int _), (2, .int _), (3, .int _)]) [1, 2, 3, 0] rfl ?_
          exact g_eqv (ihi (by omega) trivial) (by simp only [sumI, cmB, *, ↓reduceIte, Int32.add_zero]) (by subst_vars; funext k j; simp only [up2_e, ntR, cmB, par] at *; grind) rfl rfl
        · skip
          refine g_iload_n X dX0_passNight_57 1 rfl rfl ?_
          refine g_goto X 63 dX0_passNight_58 (by decide) ?_
          refine g_mcallVv X b (c_X0_shift l D cy ad ρ_1 b i _ hb (by omega)) kl_X0_38 ⟨rfl, rfl, Nat.le_of_ble_eq_true rfl, Nat.le_of_ble_eq_true rfl⟩ (by omega) (lC_P hb) kv_X0 rfl rfl (Nat.le_of_ble_eq_true rfl) dX0_passNight_63 ⟨Nat.le_of_ble_eq_true rfl, Nat.le_of_ble_eq_true rfl⟩ (fun ρ_19 h_21 => ?_)
          refine g_aload_n X dX0_passNight_66 0 rfl rfl ?_
          refine g_getr X b (by omega) 3 (by decide) ku_X0 kv_X0 kf_X0_22 rfl (lC_f_pla hb) dX0_passNight_67 ?_
          refine g_iload_n X dX0_passNight_70 3 rfl rfl ?_
          refine g_iconst X (v := 0) dX0_passNight_71 (by decide) ?_
          refine g_zastN X (b + 4) i (by omega) (lC_pla hb) vp_z0 (by omega) (by decide) dX0_passNight_72 (fun ρ_22 eρ_22 => ?_)
          refine g_iincN X i 3 [(3, .int _), (0, .ref _), (1, .int _), (2, .int _)] 3 dX0_passNight_73 rfl (by decide) rfl ?_
          refine g_goto X 4 dX0_passNight_76 (by decide) ?_
          refine g_ls (ls' := [(0, .ref _), (1, .int _), (2, .int _), (3, .int _)]) [1, 2, 3, 0] rfl ?_
          exact g_eqv (ihi (by omega) trivial) (by simp only [sumI, cmB, *, ↓reduceIte, Int32.add_zero]) (by subst_vars; funext k j; simp only [up2_e, ntR, cmB, par] at *; grind) rfl rfl
      · skip
        refine g_aload_n X dX0_passNight_30 0 rfl rfl ?_
        refine g_getr X b (by omega) 2 (by decide) ku_X0 kv_X0 kf_X0_18 rfl (lC_f_cri hb) dX0_passNight_31 ?_
        refine g_iload_n X dX0_passNight_34 3 rfl rfl ?_
        refine g_zaldN X (b + 3) i (by omega) (lC_cri hb) (by omega) (by decide) dX0_passNight_35 ?_
        rw [show ρ_1 (b + 3) i = ρ (b + 3) i by subst_vars; simp [ntR]]
        refine g_if_ne X 49 dX0_passNight_36 (by decide) (fun c_23 => ?_) (fun c_23 => ?_)
        · skip
          refine g_aload_n X dX0_passNight_49 0 rfl rfl ?_
          refine g_iload_n X dX0_passNight_50 3 rfl rfl ?_
          refine g_iload_n X dX0_passNight_51 3 rfl rfl ?_
          refine g_iconst X (v := 2) dX0_passNight_52 (by decide) ?_
          refine g_irem X dX0_passNight_53 (by decide) ?_
          rw [remN (by omega)]
          refine g_if_ne X 61 dX0_passNight_54 (by decide) (fun c_24 => ?_) (fun c_24 => ?_)
          · skip
            refine g_iload_n X dX0_passNight_61 1 rfl rfl ?_
            refine g_ineg X dX0_passNight_62 ?_
            refine g_mcallVv X b (c_X0_shift l D cy ad ρ_1 b i _ hb (by omega)) kl_X0_38 ⟨rfl, rfl, Nat.le_of_ble_eq_true rfl, Nat.le_of_ble_eq_true rfl⟩ (by omega) (lC_P hb) kv_X0 rfl rfl (Nat.le_of_ble_eq_true rfl) dX0_passNight_63 ⟨Nat.le_of_ble_eq_true rfl, Nat.le_of_ble_eq_true rfl⟩ (fun ρ_25 h_27 => ?_)
            refine g_aload_n X dX0_passNight_66 0 rfl rfl ?_
            refine g_getr X b (by omega) 3 (by decide) ku_X0 kv_X0 kf_X0_22 rfl (lC_f_pla hb) dX0_passNight_67 ?_
            refine g_iload_n X dX0_passNight_70 3 rfl rfl ?_
            refine g_iconst X (v := 0) dX0_passNight_71 (by decide) ?_
            refine g_zastN X (b + 4) i (by omega) (lC_pla hb) vp_z0 (by omega) (by decide) dX0_passNight_72 (fun ρ_28 eρ_28 => ?_)
            refine g_iincN X i 3 [(3, .int _), (0, .ref _), (1, .int _), (2, .int _)] 3 dX0_passNight_73 rfl (by decide) rfl ?_
            refine g_goto X 4 dX0_passNight_76 (by decide) ?_
            refine g_ls (ls' := [(0, .ref _), (1, .int _), (2, .int _), (3, .int _)]) [1, 2, 3, 0] rfl ?_
            exact g_eqv (ihi (by omega) trivial) (by simp only [sumI, cmB, *, ↓reduceIte, Int32.add_zero]) (by subst_vars; funext k j; simp only [up2_e, ntR, cmB, par] at *; grind) rfl rfl
          · skip
            refine g_iload_n X dX0_passNight_57 1 rfl rfl ?_
            refine g_goto X 63 dX0_passNight_58 (by decide) ?_
            refine g_mcallVv X b (c_X0_shift l D cy ad ρ_1 b i _ hb (by omega)) kl_X0_38 ⟨rfl, rfl, Nat.le_of_ble_eq_true rfl, Nat.le_of_ble_eq_true rfl⟩ (by omega) (lC_P hb) kv_X0 rfl rfl (Nat.le_of_ble_eq_true rfl) dX0_passNight_63 ⟨Nat.le_of_ble_eq_true rfl, Nat.le_of_ble_eq_true rfl⟩ (fun ρ_29 h_31 => ?_)
            refine g_aload_n X dX0_passNight_66 0 rfl rfl ?_
            refine g_getr X b (by omega) 3 (by decide) ku_X0 kv_X0 kf_X0_22 rfl (lC_f_pla hb) dX0_passNight_67 ?_
            refine g_iload_n X dX0_passNight_70 3 rfl rfl ?_
            refine g_iconst X (v := 0) dX0_passNight_71 (by decide) ?_
            refine g_zastN X (b + 4) i (by omega) (lC_pla hb) vp_z0 (by omega) (by decide) dX0_passNight_72 (fun ρ_32 eρ_32 => ?_)
            refine g_iincN X i 3 [(3, .int _), (0, .ref _), (1, .int _), (2, .int _)] 3 dX0_passNight_73 rfl (by decide) rfl ?_
            refine g_goto X 4 dX0_passNight_76 (by decide) ?_
            refine g_ls (ls' := [(0, .ref _), (1, .int _), (2, .int _), (3, .int _)]) [1, 2, 3, 0] rfl ?_
            exact g_eqv (ihi (by omega) trivial) (by simp only [sumI, cmB, *, ↓reduceIte, Int32.add_zero]) (by subst_vars; funext k j; simp only [up2_e, ntR, cmB, par] at *; grind) rfl rfl
        · skip
          refine g_aload_n X dX0_passNight_39 0 rfl rfl ?_
          refine g_getr X b (by omega) 2 (by decide) ku_X0 kv_X0 kf_X0_18 rfl (lC_f_cri hb) dX0_passNight_40 ?_
          refine g_iload_n X dX0_passNight_43 3 rfl rfl ?_
          refine g_iconst X (v := 1) dX0_passNight_44 (by decide) ?_
          refine g_zastN X (b + 3) i (by omega) (lC_cri hb) vp_z1 (by omega) (by decide) dX0_passNight_45 (fun ρ_33 eρ_33 => ?_)
          refine g_iinc X (_ + 1) [(2, .int _), (0, .ref _), (1, .int _), (3, .int _)] 2 dX0_passNight_46 rfl rfl (by decide) rfl ?_
          refine g_aload_n X dX0_passNight_49 1 rfl rfl ?_
          refine g_iload_n X dX0_passNight_50 3 rfl rfl ?_
          refine g_iload_n X dX0_passNight_51 3 rfl rfl ?_
          refine g_iconst X (v := 2) dX0_passNight_52 (by decide) ?_
          refine g_irem X dX0_passNight_53 (by decide) ?_
          rw [remN (by omega)]
          refine g_if_ne X 61 dX0_passNight_54 (by decide) (fun c_34 => ?_) (fun c_34 => ?_)
          · skip
            refine g_iload_n X dX0_passNight_61 2 rfl rfl ?_
            refine g_ineg X dX0_passNight_62 ?_
            refine g_mcallVv X b (c_X0_shift l D cy ad ρ_33 b i _ hb (by omega)) kl_X0_38 ⟨rfl, rfl, Nat.le_of_ble_eq_true rfl, Nat.le_of_ble_eq_true rfl⟩ (by omega) (lC_P hb) kv_X0 rfl rfl (Nat.le_of_ble_eq_true rfl) dX0_passNight_63 ⟨Nat.le_of_ble_eq_true rfl, Nat.le_of_ble_eq_true rfl⟩ (fun ρ_35 h_37 => ?_)
            refine g_aload_n X dX0_passNight_66 1 rfl rfl ?_
            refine g_getr X b (by omega) 3 (by decide) ku_X0 kv_X0 kf_X0_22 rfl (lC_f_pla hb) dX0_passNight_67 ?_
            refine g_iload_n X dX0_passNight_70 3 rfl rfl ?_
            refine g_iconst X (v := 0) dX0_passNight_71 (by decide) ?_
            refine g_zastN X (b + 4) i (by omega) (lC_pla hb) vp_z0 (by omega) (by decide) dX0_passNight_72 (fun ρ_38 eρ_38 => ?_)
            refine g_iincN X i 3 [(3, .int _), (2, .int _), (0, .ref _), (1, .int _)] 3 dX0_passNight_73 rfl (by decide) rfl ?_
            refine g_goto X 4 dX0_passNight_76 (by decide) ?_
            refine g_ls (ls' := [(0, .ref _), (1, .int _), (2, .int _), (3, .int _)]) [2, 3, 1, 0] rfl ?_
            exact g_eqv (ihi (by omega) trivial) (by simp only [sumI, cmB, *, ↓reduceIte, Int32.add_zero]) (by subst_vars; funext k j; simp only [up2_e, ntR, cmB, par] at *; grind) rfl rfl
          · skip
            refine g_iload_n X dX0_passNight_57 2 rfl rfl ?_
            refine g_goto X 63 dX0_passNight_58 (by decide) ?_
            refine g_mcallVv X b (c_X0_shift l D cy ad ρ_33 b i _ hb (by omega)) kl_X0_38 ⟨rfl, rfl, Nat.le_of_ble_eq_true rfl, Nat.le_of_ble_eq_true rfl⟩ (by omega) (lC_P hb) kv_X0 rfl rfl (Nat.le_of_ble_eq_true rfl) dX0_passNight_63 ⟨Nat.le_of_ble_eq_true rfl, Nat.le_of_ble_eq_true rfl⟩ (fun ρ_39 h_41 => ?_)
            refine g_aload_n X dX0_passNight_66 1 rfl rfl ?_
            refine g_getr X b (by omega) 3 (by decide) ku_X0 kv_X0 kf_X0_22 rfl (lC_f_pla hb) dX0_passNight_67 ?_
            refine g_iload_n X dX0_passNight_70 3 rfl rfl ?_
            refine g_iconst X (v := 0) dX0_passNight_71 (by decide) ?_
            refine g_zastN X (b + 4) i (by omega) (lC_pla hb) vp_z0 (by omega) (by decide) dX0_passNight_72 (fun ρ_42 eρ_42 => ?_)
            refine g_iincN X i 3 [(3, .int _), (2, .int _), (0, .ref _), (1, .int _)] 3 dX0_passNight_73 rfl (by decide) rfl ?_
            refine g_goto X 4 dX0_passNight_76 (by decide) ?_
            refine g_ls (ls' := [(0, .ref _), (1, .int _), (2, .int _), (3, .int _)]) [2, 3, 1, 0] rfl ?_
            exact g_eqv (ihi (by omega) trivial) (by simp only [sumI, cmB, *, ↓reduceIte, Int32.add_zero]) (by subst_vars; funext k j; simp only [up2_e, ntR, cmB, par] at *; grind) rfl rfl

set_option maxHeartbeats 1000000 in
set_option maxRecDepth 100000 in
theorem c_X0_clearCrickets (l : Launch) (D : va_G) (cy : Nat → ClassId) (ad : Nat → Nat) (ρ : Nat → Nat → Int32) (b : Nat) (hb : isP b) : gMV l yX0_clearCrickets cX0_clearCrickets 2 none { frames := 0, cells := 0, slots := 0, locals := 0 } D cy 48 ad (cC ad cy) [.ref (ad b)] ρ (fun ρ1 => ρ1 = clrR ρ b 12) 0 0 := by
  refine gMV_of (ls := [(0, .ref (ad b))]) RX0 rfl (by decide +kernel) (Nat.le_of_ble_eq_true rfl) rfl ?_
  intro p e s m args below meth c A X hr hlk hnm
  have hb9 := isP_lt hb
  refine g_iconst X (v := 0) dX0_clearCrickets_0 (by decide) ?_
  refine g_istore_n X [(1, .int _), (0, .ref _)] dX0_clearCrickets_1 rfl (by decide) rfl ?_
  refine g_ls (ls' := [(0, .ref _), (1, .int _)]) [1, 0] rfl ?_
  refine g_loop (fun _ => True) (fun i => clrR ρ b i) (fun i => [(0, .ref (ad b)), (1, .int (nI i))]) (fun _ => 0) (fun _ => 0) 12 0 trivial (by omega) rfl (by funext k j; simp [clrR]) rfl rfl (fun i h0i hi hIi ihi => ?_)
  obtain ⟨ρ_1, eρ_1⟩ : ∃ ρz, ρz = clrR ρ b i := ⟨_, rfl⟩
  rw [← eρ_1]
  refine g_iload_n X dX0_clearCrickets_2 1 rfl rfl ?_
  refine g_bipush X (v := 12) dX0_clearCrickets_3 (by decide) ?_
  refine g_icmp_geN X i 12 21 (by omega) (by omega) dX0_clearCrickets_5 (by decide) (fun c_2 => ?_) (fun c_2 => ?_)
  · skip
    exact g_vret X hr hlk (by omega) (by omega) dX0_clearCrickets_21 (by subst_vars; rw [show i = 12 by omega])
  · skip
    refine g_aload_n X dX0_clearCrickets_8 0 rfl rfl ?_
    refine g_getr X b (by omega) 2 (by decide) ku_X0 kv_X0 kf_X0_18 rfl (lC_f_cri hb) dX0_clearCrickets_9 ?_
    refine g_iload_n X dX0_clearCrickets_12 1 rfl rfl ?_
    refine g_iconst X (v := 0) dX0_clearCrickets_13 (by decide) ?_
    refine g_zastN X (b + 3) i (by omega) (lC_cri hb) vp_z0 (by omega) (by decide) dX0_clearCrickets_14 (fun ρ_3 eρ_3 => ?_)
    refine g_iincN X i 1 [(1, .int _), (0, .ref _)] 1 dX0_clearCrickets_15 rfl (by decide) rfl ?_
    refine g_goto X 2 dX0_clearCrickets_18 (by decide) ?_
    refine g_ls (ls' := [(0, .ref _), (1, .int _)]) [1, 0] rfl ?_
    exact g_eqv (ihi (by omega) trivial) (rfl) (by subst_vars; funext k j; simp only [up2_e, clrR]; grind) rfl rfl

set_option maxHeartbeats 1000000 in
set_option maxRecDepth 100000 in
theorem c_X0_cricketCount (l : Launch) (D : va_G) (cy : Nat → ClassId) (ad : Nat → Nat) (ρ : Nat → Nat → Int32) (b : Nat) (hb : isP b) : gMI l yX0_cricketCount cX0_cricketCount 3 (some .int) { frames := 0, cells := 0, slots := 0, locals := 0 } D cy 48 ad (cC ad cy) [.ref (ad b)] ρ (fun r ρ1 => r = crc ρ b ∧ ρ1 = ρ) 0 0 := by
  refine gMI_of (ls := [(0, .ref (ad b))]) RX0 rfl (by decide +kernel) (Nat.le_of_ble_eq_true rfl) rfl ?_
  intro p e s m args below meth c A X hr hlk hnm
  have hb9 := isP_lt hb
  refine g_iconst X (v := 0) dX0_cricketCount_0 (by decide) ?_
  refine g_istore_n X [(1, .int _), (0, .ref _)] dX0_cricketCount_1 rfl (by decide) rfl ?_
  refine g_iconst X (v := 0) dX0_cricketCount_2 (by decide) ?_
  refine g_istore_n X [(2, .int _), (1, .int _), (0, .ref _)] dX0_cricketCount_3 rfl (by decide) rfl ?_
  refine g_ls (ls' := [(0, .ref _), (1, .int _), (2, .int _)]) [2, 1, 0] rfl ?_
  refine g_loop (fun _ => True) (fun _ => ρ) (fun i => [(0, .ref (ad b)), (1, .int (sumI (fun j => b01 (ρ (b + 3) j)) i)), (2, .int (nI i))]) (fun _ => 0) (fun _ => 0) 12 0 trivial (by omega) rfl rfl rfl rfl (fun i h0i hi hIi ihi => ?_)
  refine g_iload_n X dX0_cricketCount_4 2 rfl rfl ?_
  refine g_bipush X (v := 12) dX0_cricketCount_5 (by decide) ?_
  refine g_icmp_geN X i 12 33 (by omega) (by omega) dX0_cricketCount_7 (by decide) (fun c_1 => ?_) (fun c_1 => ?_)
  · skip
    refine g_iload_n X dX0_cricketCount_33 1 rfl rfl ?_
    exact g_iret X hr hlk (by omega) (by omega) dX0_cricketCount_34 (by rw [show i = 12 by omega]; exact ⟨rfl, rfl⟩)
  · skip
    refine g_iload_n X dX0_cricketCount_10 1 rfl rfl ?_
    refine g_aload_n X dX0_cricketCount_11 0 rfl rfl ?_
    refine g_getr X b (by omega) 2 (by decide) ku_X0 kv_X0 kf_X0_18 rfl (lC_f_cri hb) dX0_cricketCount_12 ?_
    refine g_iload_n X dX0_cricketCount_15 2 rfl rfl ?_
    refine g_zaldN X (b + 3) i (by omega) (lC_cri hb) (by omega) (by decide) dX0_cricketCount_16 ?_
    refine g_if_eq X 24 dX0_cricketCount_17 (by decide) (fun c_2 => ?_) (fun c_2 => ?_)
    · skip
      refine g_iconst X (v := 0) dX0_cricketCount_24 (by decide) ?_
      refine g_iadd X dX0_cricketCount_25 ?_
      refine g_istore_n X [(1, .int _), (0, .ref _), (2, .int _)] dX0_cricketCount_26 rfl (by decide) rfl ?_
      refine g_iincN X i 2 [(2, .int _), (1, .int _), (0, .ref _)] 2 dX0_cricketCount_27 rfl (by decide) rfl ?_
      refine g_goto X 4 dX0_cricketCount_30 (by decide) ?_
      refine g_ls (ls' := [(0, .ref _), (1, .int _), (2, .int _)]) [2, 1, 0] rfl ?_
      exact g_eqv (ihi (by omega) trivial) (by simp only [sumI, b01]; first | rw [if_pos c_2] | rw [if_neg c_2]) (rfl) rfl rfl
    · skip
      refine g_iconst X (v := 1) dX0_cricketCount_20 (by decide) ?_
      refine g_goto X 25 dX0_cricketCount_21 (by decide) ?_
      refine g_iadd X dX0_cricketCount_25 ?_
      refine g_istore_n X [(1, .int _), (0, .ref _), (2, .int _)] dX0_cricketCount_26 rfl (by decide) rfl ?_
      refine g_iincN X i 2 [(2, .int _), (1, .int _), (0, .ref _)] 2 dX0_cricketCount_27 rfl (by decide) rfl ?_
      refine g_goto X 4 dX0_cricketCount_30 (by decide) ?_
      refine g_ls (ls' := [(0, .ref _), (1, .int _), (2, .int _)]) [2, 1, 0] rfl ?_
      exact g_eqv (ihi (by omega) trivial) (by simp only [sumI, b01]; first | rw [if_pos c_2] | rw [if_neg c_2]) (rfl) rfl rfl

set_option maxHeartbeats 1000000 in
set_option maxRecDepth 100000 in
theorem c_X0_wornInAll (l : Launch) (D : va_G) (cy : Nat → ClassId) (ad : Nat → Nat) (ρ : Nat → Nat → Int32) (b : Nat) (hb : isP b) : gMI l yX0_wornInAll cX0_wornInAll 3 (some .int) { frames := 0, cells := 0, slots := 0, locals := 0 } D cy 48 ad (cC ad cy) [.ref (ad b)] ρ (fun r ρ1 => r = wrn ρ b ∧ ρ1 = ρ) 0 0 := by
  refine gMI_of (ls := [(0, .ref (ad b))]) RX0 rfl (by decide +kernel) (Nat.le_of_ble_eq_true rfl) rfl ?_
  intro p e s m args below meth c A X hr hlk hnm
  have hb9 := isP_lt hb
  refine g_iconst X (v := 0) dX0_wornInAll_0 (by decide) ?_
  refine g_istore_n X [(1, .int _), (0, .ref _)] dX0_wornInAll_1 rfl (by decide) rfl ?_
  refine g_iconst X (v := 0) dX0_wornInAll_2 (by decide) ?_
  refine g_istore_n X [(2, .int _), (1, .int _), (0, .ref _)] dX0_wornInAll_3 rfl (by decide) rfl ?_
  refine g_ls (ls' := [(0, .ref _), (1, .int _), (2, .int _)]) [2, 1, 0] rfl ?_
  refine g_loop (fun _ => True) (fun _ => ρ) (fun i => [(0, .ref (ad b)), (1, .int (sumI (fun j => ρ (b + 1) j) i)), (2, .int (nI i))]) (fun _ => 0) (fun _ => 0) 12 0 trivial (by omega) rfl rfl rfl rfl (fun i h0i hi hIi ihi => ?_)
  refine g_iload_n X dX0_wornInAll_4 2 rfl rfl ?_
  refine g_bipush X (v := 12) dX0_wornInAll_5 (by decide) ?_
  refine g_icmp_geN X i 12 25 (by omega) (by omega) dX0_wornInAll_7 (by decide) (fun c_1 => ?_) (fun c_1 => ?_)
  · skip
    refine g_iload_n X dX0_wornInAll_25 1 rfl rfl ?_
    exact g_iret X hr hlk (by omega) (by omega) dX0_wornInAll_26 (by rw [show i = 12 by omega]; exact ⟨rfl, rfl⟩)
  · skip
    refine g_iload_n X dX0_wornInAll_10 1 rfl rfl ?_
    refine g_aload_n X dX0_wornInAll_11 0 rfl rfl ?_
    refine g_getr X b (by omega) 0 (by decide) ku_X0 kv_X0 kf_X0_9 rfl (lC_f_worn hb) dX0_wornInAll_12 ?_
    refine g_iload_n X dX0_wornInAll_15 2 rfl rfl ?_
    refine g_ialdN X (b + 1) i (by omega) (lC_worn hb) (by omega) (by decide) dX0_wornInAll_16 ?_
    refine g_iadd X dX0_wornInAll_17 ?_
    refine g_istore_n X [(1, .int _), (0, .ref _), (2, .int _)] dX0_wornInAll_18 rfl (by decide) rfl ?_
    refine g_iincN X i 2 [(2, .int _), (1, .int _), (0, .ref _)] 2 dX0_wornInAll_19 rfl (by decide) rfl ?_
    refine g_goto X 4 dX0_wornInAll_22 (by decide) ?_
    refine g_ls (ls' := [(0, .ref _), (1, .int _), (2, .int _)]) [2, 1, 0] rfl ?_
    exact g_eqv (ihi (by omega) trivial) (rfl) (rfl) rfl rfl

set_option maxHeartbeats 1000000 in
set_option maxRecDepth 100000 in
theorem c_X0_offInAll (l : Launch) (D : va_G) (cy : Nat → ClassId) (ad : Nat → Nat) (ρ : Nat → Nat → Int32) (b : Nat) (hb : isP b) : gMI l yX0_offInAll cX0_offInAll 3 (some .int) { frames := 1, cells := 0, slots := 0, locals := 21 } D cy 48 ad (cC ad cy) [.ref (ad b)] ρ (fun r ρ1 => r = ofn ρ b ∧ ρ1 = ρ) 0 0 := by
  refine gMI_of (ls := [(0, .ref (ad b))]) RX0 rfl (by decide +kernel) (Nat.le_of_ble_eq_true rfl) rfl ?_
  intro p e s m args below meth c A X hr hlk hnm
  have hb9 := isP_lt hb
  refine g_iconst X (v := 0) dX0_offInAll_0 (by decide) ?_
  refine g_istore_n X [(1, .int _), (0, .ref _)] dX0_offInAll_1 rfl (by decide) rfl ?_
  refine g_iconst X (v := 0) dX0_offInAll_2 (by decide) ?_
  refine g_istore_n X [(2, .int _), (1, .int _), (0, .ref _)] dX0_offInAll_3 rfl (by decide) rfl ?_
  refine g_ls (ls' := [(0, .ref _), (1, .int _), (2, .int _)]) [2, 1, 0] rfl ?_
  refine g_loop (fun _ => True) (fun _ => ρ) (fun i => [(0, .ref (ad b)), (1, .int (sumI (fun j => ab (ρ (b + 2) j)) i)), (2, .int (nI i))]) (fun _ => 0) (fun _ => 0) 12 0 trivial (by omega) rfl rfl rfl rfl (fun i h0i hi hIi ihi => ?_)
  refine g_iload_n X dX0_offInAll_4 2 rfl rfl ?_
  refine g_bipush X (v := 12) dX0_offInAll_5 (by decide) ?_
  refine g_icmp_geN X i 12 28 (by omega) (by omega) dX0_offInAll_7 (by decide) (fun c_1 => ?_) (fun c_1 => ?_)
  · skip
    refine g_iload_n X dX0_offInAll_28 1 rfl rfl ?_
    exact g_iret X hr hlk (by omega) (by omega) dX0_offInAll_29 (by rw [show i = 12 by omega]; exact ⟨rfl, rfl⟩)
  · skip
    refine g_iload_n X dX0_offInAll_10 1 rfl rfl ?_
    refine g_aload_n X dX0_offInAll_11 0 rfl rfl ?_
    refine g_getr X b (by omega) 1 (by decide) ku_X0 kv_X0 kf_X0_15 rfl (lC_f_off hb) dX0_offInAll_12 ?_
    refine g_iload_n X dX0_offInAll_15 2 rfl rfl ?_
    refine g_ialdN X (b + 2) i (by omega) (lC_off hb) (by omega) (by decide) dX0_offInAll_16 ?_
    refine g_mabs X km_X0_25 kt_mabs ki_math kc_mabs ⟨Nat.le_of_ble_eq_true rfl, Nat.le_of_ble_eq_true rfl, by omega, by omega⟩ dX0_offInAll_17 ?_
    refine g_iadd X dX0_offInAll_20 ?_
    refine g_istore_n X [(1, .int _), (0, .ref _), (2, .int _)] dX0_offInAll_21 rfl (by decide) rfl ?_
    refine g_iincN X i 2 [(2, .int _), (1, .int _), (0, .ref _)] 2 dX0_offInAll_22 rfl (by decide) rfl ?_
    refine g_goto X 4 dX0_offInAll_25 (by decide) ?_
    refine g_ls (ls' := [(0, .ref _), (1, .int _), (2, .int _)]) [2, 1, 0] rfl ?_
    exact g_eqv (ihi (by omega) trivial) (rfl) (rfl) rfl rfl

set_option maxHeartbeats 1000000 in
set_option maxRecDepth 100000 in
theorem c_X0_sumUp (l : Launch) (D : va_G) (cy : Nat → ClassId) (ad : Nat → Nat) (ρ : Nat → Nat → Int32) (b w : Nat) (hb : isP b) (hw : w = 5 ∨ w = 6 ∨ w = 7) : gMI l yX0_sumUp cX0_sumUp 2 (some .int) { frames := 2, cells := 0, slots := 0, locals := 43 } D cy 48 ad (cC ad cy) [.ref (ad b), .int (nI w)] ρ (fun r ρ1 => r = sumUpF ρ b w ∧ ρ1 = ρ) 0 0 := by
  refine gMI_of (ls := [(0, .ref (ad b)), (1, .int (nI w))]) RX0 rfl (by decide +kernel) (Nat.le_of_ble_eq_true rfl) rfl ?_
  intro p e s m args below meth c A X hr hlk hnm
  have hb9 := isP_lt hb
  refine g_iload_n X dX0_sumUp_0 1 rfl rfl ?_
  rcases hw with rfl | rfl | rfl
  · skip
    refine g_lookup X 27 28 dX0_sumUp_1 (by decide) (by decide) (by decide) ?_
    refine g_aload_n X dX0_sumUp_28 0 rfl rfl ?_
    refine g_mcallVi X b (c_X0_cricketCount l D cy ad ρ b hb) kl_X0_42 ⟨rfl, rfl, Nat.le_of_ble_eq_true rfl, Nat.le_of_ble_eq_true rfl⟩ (by omega) (lC_P hb) kv_X0 rfl rfl (Nat.le_of_ble_eq_true rfl) dX0_sumUp_29 ⟨Nat.le_of_ble_eq_true rfl, Nat.le_of_ble_eq_true rfl⟩ (fun r_2 ρ_1 h_3 => ?_)
    obtain ⟨er_2, e9⟩ := h_3
    rw [e9, er_2]
    clear e9
    exact g_iret X hr hlk (by omega) (by omega) dX0_sumUp_32 (⟨rfl, rfl⟩)
  · skip
    refine g_lookup X 32 33 dX0_sumUp_1 (by decide) (by decide) (by decide) ?_
    refine g_aload_n X dX0_sumUp_33 0 rfl rfl ?_
    refine g_mcallVi X b (c_X0_wornInAll l D cy ad ρ b hb) kl_X0_46 ⟨rfl, rfl, Nat.le_of_ble_eq_true rfl, Nat.le_of_ble_eq_true rfl⟩ (by omega) (lC_P hb) kv_X0 rfl rfl (Nat.le_of_ble_eq_true rfl) dX0_sumUp_34 ⟨Nat.le_of_ble_eq_true rfl, Nat.le_of_ble_eq_true rfl⟩ (fun r_5 ρ_4 h_6 => ?_)
    obtain ⟨er_5, e9⟩ := h_6
    rw [e9, er_5]
    clear e9
    exact g_iret X hr hlk (by omega) (by omega) dX0_sumUp_37 (⟨rfl, rfl⟩)
  · skip
    refine g_lookup X 37 38 dX0_sumUp_1 (by decide) (by decide) (by decide) ?_
    refine g_aload_n X dX0_sumUp_38 0 rfl rfl ?_
    refine g_mcallVi X b (c_X0_offInAll l D cy ad ρ b hb) kl_X0_49 ⟨rfl, rfl, Nat.le_of_ble_eq_true rfl, Nat.le_of_ble_eq_true rfl⟩ (by omega) (lC_P hb) kv_X0 rfl rfl (Nat.le_of_ble_eq_true rfl) dX0_sumUp_39 ⟨Nat.le_of_ble_eq_true rfl, Nat.le_of_ble_eq_true rfl⟩ (fun r_8 ρ_7 h_9 => ?_)
    obtain ⟨er_8, e9⟩ := h_9
    rw [e9, er_8]
    clear e9
    exact g_iret X hr hlk (by omega) (by omega) dX0_sumUp_42 (⟨rfl, rfl⟩)

set_option maxHeartbeats 1000000 in
set_option maxRecDepth 100000 in
theorem c_X0_tell (l : Launch) (D : va_G) (cy : Nat → ClassId) (ad : Nat → Nat) (ρ : Nat → Nat → Int32) (b i w : Nat) (hb : isP b) (hi : i < 12) (hw : w < 5) : gMI l yX0_tell cX0_tell 3 (some .int) { frames := 2, cells := 0, slots := 0, locals := 42 } D cy 48 ad (cC ad cy) [.ref (ad b), .int (nI i), .int (nI w)] ρ (fun r ρ1 => r = tellF ρ b i w ∧ ρ1 = ρ) 0 0 := by
  refine gMI_of (ls := [(0, .ref (ad b)), (1, .int (nI i)), (2, .int (nI w))]) RX0 rfl (by decide +kernel) (Nat.le_of_ble_eq_true rfl) rfl ?_
  intro p e s m args below meth c A X hr hlk hnm
  have hb9 := isP_lt hb
  refine g_iload_n X dX0_tell_0 2 rfl rfl ?_
  rcases (show w = 0 ∨ w = 1 ∨ w = 2 ∨ w = 3 ∨ w = 4 by omega) with rfl | rfl | rfl | rfl | rfl
  · skip
    refine g_tableIn X 32 dX0_tell_1 (by decide) (by decide) rfl (by decide) ?_
    refine g_aload_n X dX0_tell_32 0 rfl rfl ?_
    refine g_getr X b (by omega) 0 (by decide) ku_X0 kv_X0 kf_X0_9 rfl (lC_f_worn hb) dX0_tell_33 ?_
    refine g_iload_n X dX0_tell_36 1 rfl rfl ?_
    refine g_ialdN X (b + 1) i (by omega) (lC_worn hb) (by omega) (by decide) dX0_tell_37 ?_
    exact g_iret X hr hlk (by omega) (by omega) dX0_tell_38 (⟨rfl, rfl⟩)
  · skip
    refine g_tableIn X 39 dX0_tell_1 (by decide) (by decide) rfl (by decide) ?_
    refine g_aload_n X dX0_tell_39 0 rfl rfl ?_
    refine g_getr X b (by omega) 1 (by decide) ku_X0 kv_X0 kf_X0_15 rfl (lC_f_off hb) dX0_tell_40 ?_
    refine g_iload_n X dX0_tell_43 1 rfl rfl ?_
    refine g_ialdN X (b + 2) i (by omega) (lC_off hb) (by omega) (by decide) dX0_tell_44 ?_
    exact g_iret X hr hlk (by omega) (by omega) dX0_tell_45 (⟨rfl, rfl⟩)
  · skip
    refine g_tableIn X 46 dX0_tell_1 (by decide) (by decide) rfl (by decide) ?_
    refine g_aload_n X dX0_tell_46 0 rfl rfl ?_
    refine g_getr X b (by omega) 2 (by decide) ku_X0 kv_X0 kf_X0_18 rfl (lC_f_cri hb) dX0_tell_47 ?_
    refine g_iload_n X dX0_tell_50 1 rfl rfl ?_
    refine g_zaldN X (b + 3) i (by omega) (lC_cri hb) (by omega) (by decide) dX0_tell_51 ?_
    refine g_if_eq X 59 dX0_tell_52 (by decide) (fun c_1 => ?_) (fun c_1 => ?_)
    · skip
      refine g_iconst X (v := 0) dX0_tell_59 (by decide) ?_
      exact g_iret X hr hlk (by omega) (by omega) dX0_tell_60 (⟨by simp [tellF, b01, *], rfl⟩)
    · skip
      refine g_iconst X (v := 1) dX0_tell_55 (by decide) ?_
      refine g_goto X 60 dX0_tell_56 (by decide) ?_
      exact g_iret X hr hlk (by omega) (by omega) dX0_tell_60 (⟨by simp [tellF, b01, *], rfl⟩)
  · skip
    refine g_tableIn X 61 dX0_tell_1 (by decide) (by decide) rfl (by decide) ?_
    refine g_aload_n X dX0_tell_61 0 rfl rfl ?_
    refine g_iload_n X dX0_tell_62 1 rfl rfl ?_
    refine g_mcallVi X b (c_X0_harmOf l D cy ad ρ b i hb (by omega)) kl_X0_52 ⟨rfl, rfl, Nat.le_of_ble_eq_true rfl, Nat.le_of_ble_eq_true rfl⟩ (by omega) (lC_P hb) kv_X0 rfl rfl (Nat.le_of_ble_eq_true rfl) dX0_tell_63 ⟨Nat.le_of_ble_eq_true rfl, Nat.le_of_ble_eq_true rfl⟩ (fun r_3 ρ_2 h_4 => ?_)
    obtain ⟨er_3, e9⟩ := h_4
    rw [e9, er_3]
    clear e9
    exact g_iret X hr hlk (by omega) (by omega) dX0_tell_66 (⟨rfl, rfl⟩)
  · skip
    refine g_tableOut X 67 dX0_tell_1 (by decide) (by decide) ?_
    refine g_aload_n X dX0_tell_67 0 rfl rfl ?_
    refine g_getr X b (by omega) 3 (by decide) ku_X0 kv_X0 kf_X0_22 rfl (lC_f_pla hb) dX0_tell_68 ?_
    refine g_iload_n X dX0_tell_71 1 rfl rfl ?_
    refine g_zaldN X (b + 4) i (by omega) (lC_pla hb) (by omega) (by decide) dX0_tell_72 ?_
    refine g_if_eq X 80 dX0_tell_73 (by decide) (fun c_5 => ?_) (fun c_5 => ?_)
    · skip
      refine g_iconst X (v := 0) dX0_tell_80 (by decide) ?_
      exact g_iret X hr hlk (by omega) (by omega) dX0_tell_81 (⟨by simp [tellF, b01, *], rfl⟩)
    · skip
      refine g_iconst X (v := 1) dX0_tell_76 (by decide) ?_
      refine g_goto X 81 dX0_tell_77 (by decide) ?_
      exact g_iret X hr hlk (by omega) (by omega) dX0_tell_81 (⟨by simp [tellF, b01, *], rfl⟩)
end
section
set_option maxHeartbeats 1000000 in
set_option maxRecDepth 100000 in
theorem c_X1_isPermittedOn (l : Launch) (D : va_G) (cy : Nat → ClassId) (ad : Nat → Nat) (ρ : Nat → Nat → Int32) (z : Nat) (w : Int32) (hs : z < 8) : gMI l yX1_isPermittedOn cX1_isPermittedOn 2 (some .boolean) { frames := 0, cells := 0, slots := 0, locals := 0 } D cy 48 ad (cC ad cy) [.ref (ad (32 + 2 * z)), .int w] ρ (fun r ρ1 => r = pmF (ρ (32 + 2 * z) 2) w ∧ ρ1 = ρ) 0 0 := by
  refine gMI_of (ls := [(0, .ref (ad (32 + 2 * z))), (1, .int w)]) RX1 rfl (by decide +kernel) (Nat.le_of_ble_eq_true rfl) rfl ?_
  intro p e s m args below meth c A X hr hlk hnm
  refine g_aload_n X dX1_isPermittedOn_0 0 rfl rfl ?_
  refine g_geti X (32 + 2 * z) (by omega) 2 (by decide) ku_X1 kv_X1 kf_X1_15 rfl (lC_f_permits hs) dX1_isPermittedOn_1 ?_
  refine g_iload_n X dX1_isPermittedOn_4 1 rfl rfl ?_
  refine g_ishr X dX1_isPermittedOn_5 ?_
  refine g_iconst X (v := 1) dX1_isPermittedOn_6 (by decide) ?_
  refine g_iand X dX1_isPermittedOn_7 ?_
  refine g_iconst X (v := 1) dX1_isPermittedOn_8 (by decide) ?_
  refine g_icmp_ne X 16 dX1_isPermittedOn_9 (by decide) (fun c_1 => ?_) (fun c_1 => ?_)
  · skip
    refine g_iconst X (v := 0) dX1_isPermittedOn_16 (by decide) ?_
    exact g_zret X hr hlk (by decide) (by omega) (by omega) dX1_isPermittedOn_17 (⟨by simp only [pmF]; rw [if_neg c_1], rfl⟩)
  · skip
    refine g_iconst X (v := 1) dX1_isPermittedOn_12 (by decide) ?_
    refine g_goto X 17 dX1_isPermittedOn_13 (by decide) ?_
    exact g_zret X hr hlk (by decide) (by omega) (by omega) dX1_isPermittedOn_17 (⟨by simp only [pmF]; rw [if_pos c_1], rfl⟩)

set_option maxHeartbeats 1000000 in
set_option maxRecDepth 100000 in
theorem c_X1_payFor (l : Launch) (D : va_G) (cy : Nat → ClassId) (ad : Nat → Nat) (ρ : Nat → Nat → Int32) (z t : Nat) (snd : Int32) (hs : z < 8) (ht : t < 6) (hpo : payOK ρ z t snd) : gMI l yX1_payFor cX1_payFor 5 (some .int) { frames := 0, cells := 0, slots := 0, locals := 0 } D cy 48 ad (cC ad cy) [.ref (ad (32 + 2 * z)), .int (nI t), .int snd] ρ (fun r ρ1 => r = payV ρ z t snd ∧ ρ1 = ρ) 0 0 := by
  refine gMI_of (ls := [(0, .ref (ad (32 + 2 * z))), (1, .int (nI t)), (2, .int snd)]) RX1 rfl (by decide +kernel) (Nat.le_of_ble_eq_true rfl) rfl ?_
  intro p e s m args below meth c A X hr hlk hnm
  obtain ⟨P, h, hP1, hP20, hh, hh31⟩ := hpo
  refine g_aload_n X dX1_payFor_0 0 rfl rfl ?_
  refine g_geti X (32 + 2 * z) (by omega) 1 (by decide) ku_X1 kv_X1 kf_X1_19 rfl (lC_f_listeners hs) dX1_payFor_1 ?_
  refine g_iload_n X dX1_payFor_4 2 rfl rfl ?_
  refine g_imul X dX1_payFor_5 ?_
  refine g_bipush X (v := 60) dX1_payFor_6 (by decide) ?_
  refine g_idiv X dX1_payFor_8 (by decide) ?_
  rw [hP1]
  refine g_istore_n X [(3, .int _), (0, .ref _), (1, .int _), (2, .int _)] dX1_payFor_9 rfl (by decide) rfl ?_
  refine g_iconst X (v := 0) dX1_payFor_10 (by decide) ?_
  refine g_istore X [(4, .int _), (3, .int _), (0, .ref _), (1, .int _), (2, .int _)] dX1_payFor_11 (by decide) rfl ?_
  refine g_ls (ls' := [(0, .ref _), (1, .int _), (2, .int _), (3, .int _), (4, .int _)]) [2, 3, 4, 1, 0] rfl ?_
  refine g_loop (fun _ => True) (fun _ => ρ) (fun i => [(0, .ref (ad (32 + 2 * z))), (1, .int (nI t)), (2, .int snd), (3, .int (nI (P / 2 ^ i))), (4, .int (nI i))]) (fun _ => 0) (fun _ => 0) h 0 trivial (by omega) (by simp [nI_zero]) rfl rfl rfl (fun i h0i hi hIi ihi => ?_)
  refine g_iload X dX1_payFor_13 4 rfl ?_
  refine g_aload_n X dX1_payFor_15 0 rfl rfl ?_
  refine g_getr X (32 + 2 * z) (by omega) 0 (by decide) ku_X1 kv_X1 kf_X1_9 rfl (lC_f_heard hs) dX1_payFor_16 ?_
  refine g_iload_n X dX1_payFor_19 1 rfl rfl ?_
  refine g_ialdN X (33 + 2 * z) t (by omega) (lC_heard hs) (by omega) (by decide) dX1_payFor_20 ?_
  rw [hh]
  refine g_icmp_geN X i h 38 (by omega) (by omega) dX1_payFor_21 (by decide) (fun c_1 => ?_) (fun c_1 => ?_)
  · skip
    refine g_iload_n X dX1_payFor_38 3 rfl rfl ?_
    exact g_iret X hr hlk (by omega) (by omega) dX1_payFor_39 (by refine ⟨?_, rfl⟩; simp only [payV]; rw [hP1, hh, nI_clamp (by omega), nI_clamp hh31, show i = h by omega])
  · skip
    refine g_iload_n X dX1_payFor_24 3 rfl rfl ?_
    refine g_if_le X 38 dX1_payFor_25 (by decide) (fun c_2 => ?_) (fun c_2 => ?_)
    · skip
      refine g_iload_n X dX1_payFor_38 3 rfl rfl ?_
      exact g_iret X hr hlk (by omega) (by omega) dX1_payFor_39 (by
          have hz := nI_le0 (Nat.lt_of_le_of_lt (Nat.div_le_self _ _) (by omega)) c_2
          have hz2 : P / 2 ^ h = 0 := by
            have h5 : P < 2 ^ i := by
              rcases Nat.lt_or_ge P (2 ^ i) with q | q
              · exact q
              · have := Nat.div_pos q (Nat.two_pow_pos i); omega
            exact Nat.div_eq_of_lt (Nat.lt_of_lt_of_le h5 (Nat.pow_le_pow_right (by omega) (by omega)))
          refine ⟨?_, rfl⟩; simp only [payV]; rw [hP1, hh, nI_clamp (by omega), nI_clamp hh31, hz, hz2])
    · skip
      refine g_iload_n X dX1_payFor_28 3 rfl rfl ?_
      refine g_iconst X (v := 2) dX1_payFor_29 (by decide) ?_
      refine g_idiv X dX1_payFor_30 (by decide) ?_
      rw [halfN hP20]
      refine g_istore_n X [(3, .int _), (0, .ref _), (1, .int _), (2, .int _), (4, .int _)] dX1_payFor_31 rfl (by decide) rfl ?_
      refine g_iincN X i 4 [(4, .int _), (3, .int _), (0, .ref _), (1, .int _), (2, .int _)] 4 dX1_payFor_32 rfl (by decide) rfl ?_
      refine g_goto X 13 dX1_payFor_35 (by decide) ?_
      refine g_ls (ls' := [(0, .ref _), (1, .int _), (2, .int _), (3, .int _), (4, .int _)]) [2, 3, 4, 1, 0] rfl ?_
      exact g_eqv (ihi (by omega) trivial) (rfl) (rfl) rfl rfl

set_option maxHeartbeats 1000000 in
set_option maxRecDepth 100000 in
theorem c_X1_forgetDay (l : Launch) (D : va_G) (cy : Nat → ClassId) (ad : Nat → Nat) (ρ : Nat → Nat → Int32) (z : Nat) (hs : z < 8) : gMV l yX1_forgetDay cX1_forgetDay 2 none { frames := 0, cells := 0, slots := 0, locals := 0 } D cy 48 ad (cC ad cy) [.ref (ad (32 + 2 * z))] ρ (fun ρ1 => ρ1 = fgR ρ z 6) 0 0 := by
  refine gMV_of (ls := [(0, .ref (ad (32 + 2 * z)))]) RX1 rfl (by decide +kernel) (Nat.le_of_ble_eq_true rfl) rfl ?_
  intro p e s m args below meth c A X hr hlk hnm
  refine g_iconst X (v := 0) dX1_forgetDay_0 (by decide) ?_
  refine g_istore_n X [(1, .int _), (0, .ref _)] dX1_forgetDay_1 rfl (by decide) rfl ?_
  refine g_ls (ls' := [(0, .ref _), (1, .int _)]) [1, 0] rfl ?_
  refine g_loop (fun _ => True) (fun i => fgR ρ z i) (fun i => [(0, .ref (ad (32 + 2 * z))), (1, .int (nI i))]) (fun _ => 0) (fun _ => 0) 6 0 trivial (by omega) rfl (by funext k j; simp [fgR]) rfl rfl (fun i h0i hi hIi ihi => ?_)
  obtain ⟨ρ_1, eρ_1⟩ : ∃ ρz, ρz = fgR ρ z i := ⟨_, rfl⟩
  rw [← eρ_1]
  refine g_iload_n X dX1_forgetDay_2 1 rfl rfl ?_
  refine g_bipush X (v := 6) dX1_forgetDay_3 (by decide) ?_
  refine g_icmp_geN X i 6 21 (by omega) (by omega) dX1_forgetDay_5 (by decide) (fun c_2 => ?_) (fun c_2 => ?_)
  · skip
    exact g_vret X hr hlk (by omega) (by omega) dX1_forgetDay_21 (by subst_vars; rw [show i = 6 by omega])
  · skip
    refine g_aload_n X dX1_forgetDay_8 0 rfl rfl ?_
    refine g_getr X (32 + 2 * z) (by omega) 0 (by decide) ku_X1 kv_X1 kf_X1_9 rfl (lC_f_heard hs) dX1_forgetDay_9 ?_
    refine g_iload_n X dX1_forgetDay_12 1 rfl rfl ?_
    refine g_iconst X (v := 0) dX1_forgetDay_13 (by decide) ?_
    refine g_iastN X (33 + 2 * z) i (by omega) (lC_heard hs) (by omega) (by decide) dX1_forgetDay_14 (fun ρ_3 eρ_3 => ?_)
    refine g_iincN X i 1 [(1, .int _), (0, .ref _)] 1 dX1_forgetDay_15 rfl (by decide) rfl ?_
    refine g_goto X 2 dX1_forgetDay_18 (by decide) ?_
    refine g_ls (ls' := [(0, .ref _), (1, .int _)]) [1, 0] rfl ?_
    exact g_eqv (ihi (by omega) trivial) (rfl) (by subst_vars; funext k j; simp only [up2_e, fgR]; grind) rfl rfl

set_option maxHeartbeats 1000000 in
set_option maxRecDepth 100000 in
theorem c_X1_heardInAll (l : Launch) (D : va_G) (cy : Nat → ClassId) (ad : Nat → Nat) (ρ : Nat → Nat → Int32) (z : Nat) (hs : z < 8) : gMI l yX1_heardInAll cX1_heardInAll 3 (some .int) { frames := 0, cells := 0, slots := 0, locals := 0 } D cy 48 ad (cC ad cy) [.ref (ad (32 + 2 * z))] ρ (fun r ρ1 => r = hrd ρ z ∧ ρ1 = ρ) 0 0 := by
  refine gMI_of (ls := [(0, .ref (ad (32 + 2 * z)))]) RX1 rfl (by decide +kernel) (Nat.le_of_ble_eq_true rfl) rfl ?_
  intro p e s m args below meth c A X hr hlk hnm
  refine g_iconst X (v := 0) dX1_heardInAll_0 (by decide) ?_
  refine g_istore_n X [(1, .int _), (0, .ref _)] dX1_heardInAll_1 rfl (by decide) rfl ?_
  refine g_iconst X (v := 0) dX1_heardInAll_2 (by decide) ?_
  refine g_istore_n X [(2, .int _), (1, .int _), (0, .ref _)] dX1_heardInAll_3 rfl (by decide) rfl ?_
  refine g_ls (ls' := [(0, .ref _), (1, .int _), (2, .int _)]) [2, 1, 0] rfl ?_
  refine g_loop (fun _ => True) (fun _ => ρ) (fun i => [(0, .ref (ad (32 + 2 * z))), (1, .int (sumI (fun j => ρ (33 + 2 * z) j) i)), (2, .int (nI i))]) (fun _ => 0) (fun _ => 0) 6 0 trivial (by omega) rfl rfl rfl rfl (fun i h0i hi hIi ihi => ?_)
  refine g_iload_n X dX1_heardInAll_4 2 rfl rfl ?_
  refine g_bipush X (v := 6) dX1_heardInAll_5 (by decide) ?_
  refine g_icmp_geN X i 6 25 (by omega) (by omega) dX1_heardInAll_7 (by decide) (fun c_1 => ?_) (fun c_1 => ?_)
  · skip
    refine g_iload_n X dX1_heardInAll_25 1 rfl rfl ?_
    exact g_iret X hr hlk (by omega) (by omega) dX1_heardInAll_26 (by rw [show i = 6 by omega]; exact ⟨rfl, rfl⟩)
  · skip
    refine g_iload_n X dX1_heardInAll_10 1 rfl rfl ?_
    refine g_aload_n X dX1_heardInAll_11 0 rfl rfl ?_
    refine g_getr X (32 + 2 * z) (by omega) 0 (by decide) ku_X1 kv_X1 kf_X1_9 rfl (lC_f_heard hs) dX1_heardInAll_12 ?_
    refine g_iload_n X dX1_heardInAll_15 2 rfl rfl ?_
    refine g_ialdN X (33 + 2 * z) i (by omega) (lC_heard hs) (by omega) (by decide) dX1_heardInAll_16 ?_
    refine g_iadd X dX1_heardInAll_17 ?_
    refine g_istore_n X [(1, .int _), (0, .ref _), (2, .int _)] dX1_heardInAll_18 rfl (by decide) rfl ?_
    refine g_iincN X i 2 [(2, .int _), (1, .int _), (0, .ref _)] 2 dX1_heardInAll_19 rfl (by decide) rfl ?_
    refine g_goto X 4 dX1_heardInAll_22 (by decide) ?_
    refine g_ls (ls' := [(0, .ref _), (1, .int _), (2, .int _)]) [2, 1, 0] rfl ?_
    exact g_eqv (ihi (by omega) trivial) (rfl) (rfl) rfl rfl

set_option maxHeartbeats 1000000 in
set_option maxRecDepth 100000 in
theorem c_X1_tell (l : Launch) (D : va_G) (cy : Nat → ClassId) (ad : Nat → Nat) (ρ : Nat → Nat → Int32) (z w : Nat) (wd : Int32) (hs : z < 8) (hw : w < 5) : gMI l yX1_tell cX1_tell 3 (some .int) { frames := 1, cells := 0, slots := 0, locals := 22 } D cy 48 ad (cC ad cy) [.ref (ad (32 + 2 * z)), .int (nI w), .int wd] ρ (fun r ρ1 => r = toldF ρ z w wd ∧ ρ1 = ρ) 0 0 := by
  refine gMI_of (ls := [(0, .ref (ad (32 + 2 * z))), (1, .int (nI w)), (2, .int wd)]) RX1 rfl (by decide +kernel) (Nat.le_of_ble_eq_true rfl) rfl ?_
  intro p e s m args below meth c A X hr hlk hnm
  refine g_iload_n X dX1_tell_0 1 rfl rfl ?_
  rcases (show w = 0 ∨ w = 1 ∨ w = 2 ∨ w = 3 ∨ w = 4 by omega) with rfl | rfl | rfl | rfl | rfl
  · skip
    refine g_tableIn X 32 dX1_tell_1 (by decide) (by decide) rfl (by decide) ?_
    refine g_aload_n X dX1_tell_32 0 rfl rfl ?_
    refine g_geti X (32 + 2 * z) (by omega) 1 (by decide) ku_X1 kv_X1 kf_X1_19 rfl (lC_f_listeners hs) dX1_tell_33 ?_
    exact g_iret X hr hlk (by omega) (by omega) dX1_tell_36 (⟨rfl, rfl⟩)
  · skip
    refine g_tableIn X 37 dX1_tell_1 (by decide) (by decide) rfl (by decide) ?_
    refine g_aload_n X dX1_tell_37 0 rfl rfl ?_
    refine g_geti X (32 + 2 * z) (by omega) 2 (by decide) ku_X1 kv_X1 kf_X1_15 rfl (lC_f_permits hs) dX1_tell_38 ?_
    exact g_iret X hr hlk (by omega) (by omega) dX1_tell_41 (⟨rfl, rfl⟩)
  · skip
    refine g_tableIn X 42 dX1_tell_1 (by decide) (by decide) rfl (by decide) ?_
    refine g_aload_n X dX1_tell_42 0 rfl rfl ?_
    refine g_iload_n X dX1_tell_43 2 rfl rfl ?_
    refine g_mcallVi X (32 + 2 * z) (c_X1_isPermittedOn l D cy ad ρ z _ hs) kl_X1_22 ⟨rfl, rfl, Nat.le_of_ble_eq_true rfl, Nat.le_of_ble_eq_true rfl⟩ (by omega) (lC_S hs) kv_X1 rfl rfl (Nat.le_of_ble_eq_true rfl) dX1_tell_44 ⟨Nat.le_of_ble_eq_true rfl, Nat.le_of_ble_eq_true rfl⟩ (fun r_2 ρ_1 h_3 => ?_)
    obtain ⟨er_2, e9⟩ := h_3
    rw [e9, er_2]
    clear e9
    refine g_if_eq X 54 dX1_tell_47 (by decide) (fun c_4 => ?_) (fun c_4 => ?_)
    · skip
      refine g_iconst X (v := 0) dX1_tell_54 (by decide) ?_
      exact g_iret X hr hlk (by omega) (by omega) dX1_tell_55 (⟨by simp only [toldF, pmF] at *; simp at *; simp [*], rfl⟩)
    · skip
      refine g_iconst X (v := 1) dX1_tell_50 (by decide) ?_
      refine g_goto X 55 dX1_tell_51 (by decide) ?_
      exact g_iret X hr hlk (by omega) (by omega) dX1_tell_55 (⟨by simp only [toldF, pmF] at *; simp at *; simp [*], rfl⟩)
  · skip
    refine g_tableIn X 56 dX1_tell_1 (by decide) (by decide) rfl (by decide) ?_
    refine g_aload_n X dX1_tell_56 0 rfl rfl ?_
    refine g_geti X (32 + 2 * z) (by omega) 3 (by decide) ku_X1 kv_X1 kf_X1_26 rfl (lC_f_paid hs) dX1_tell_57 ?_
    exact g_iret X hr hlk (by omega) (by omega) dX1_tell_60 (⟨rfl, rfl⟩)
  · skip
    refine g_tableOut X 61 dX1_tell_1 (by decide) (by decide) ?_
    refine g_aload_n X dX1_tell_61 0 rfl rfl ?_
    refine g_mcallVi X (32 + 2 * z) (c_X1_heardInAll l D cy ad ρ z hs) kl_X1_29 ⟨rfl, rfl, Nat.le_of_ble_eq_true rfl, Nat.le_of_ble_eq_true rfl⟩ (by omega) (lC_S hs) kv_X1 rfl rfl (Nat.le_of_ble_eq_true rfl) dX1_tell_62 ⟨Nat.le_of_ble_eq_true rfl, Nat.le_of_ble_eq_true rfl⟩ (fun r_6 ρ_5 h_7 => ?_)
    obtain ⟨er_6, e9⟩ := h_7
    rw [e9, er_6]
    clear e9
    exact g_iret X hr hlk (by omega) (by omega) dX1_tell_65 (⟨rfl, rfl⟩)

set_option maxHeartbeats 1000000 in
set_option maxRecDepth 100000 in
theorem c_X2_append (l : Launch) (D : va_G) (cy : Nat → ClassId) (ad : Nat → Nat) (ρ : Nat → Nat → Int32) (t L q : Nat) (ht : t < 6) (hL : ρ (14 + 3 * t) 2 = nI L) (hL16 : L < 16) (hq : q < 12) : gMI l yX2_append cX2_append 2 (some .int) { frames := 0, cells := 0, slots := 0, locals := 0 } D cy 48 ad (cC ad cy) [.ref (ad (14 + 3 * t)), .int (nI q)] ρ (fun r ρ1 => r = nI (L + 1) ∧ ρ1 = up2 (up2 (up2 ρ (15 + 3 * t) L (nI q)) (16 + 3 * t) q (ρ (16 + 3 * t) q + 1)) (14 + 3 * t) 2 (nI (L + 1))) 0 0 := by
  refine gMI_of (ls := [(0, .ref (ad (14 + 3 * t))), (1, .int (nI q))]) RX2 rfl (by decide +kernel) (Nat.le_of_ble_eq_true rfl) rfl ?_
  intro p e s m args below meth c A X hr hlk hnm
  refine g_aload_n X dX2_append_0 0 rfl rfl ?_
  refine g_getr X (14 + 3 * t) (by omega) 0 (by decide) ku_X2 kv_X2 kf_X2_9 rfl (lC_f_notes ht) dX2_append_1 ?_
  refine g_aload_n X dX2_append_4 0 rfl rfl ?_
  refine g_geti X (14 + 3 * t) (by omega) 2 (by decide) ku_X2 kv_X2 kf_X2_18 rfl (lC_f_length ht) dX2_append_5 ?_
  rw [hL]
  refine g_iload_n X dX2_append_8 1 rfl rfl ?_
  refine g_iastN X (15 + 3 * t) L (by omega) (lC_notes ht) (by omega) (by decide) dX2_append_9 (fun ρ_1 eρ_1 => ?_)
  refine g_aload_n X dX2_append_10 0 rfl rfl ?_
  refine g_getr X (14 + 3 * t) (by omega) 1 (by decide) ku_X2 kv_X2 kf_X2_15 rfl (lC_f_times ht) dX2_append_11 ?_
  refine g_iload_n X dX2_append_14 1 rfl rfl ?_
  refine g_dup2 X dX2_append_15 rfl rfl ?_
  refine g_ialdN X (16 + 3 * t) q (by omega) (lC_times ht) (by omega) (by decide) dX2_append_16 ?_
  rw [show ρ_1 (16 + 3 * t) q = ρ (16 + 3 * t) q by subst_vars; rw [up2_k (by omega)]]
  refine g_iconst X (v := 1) dX2_append_17 (by decide) ?_
  refine g_iadd X dX2_append_18 ?_
  refine g_iastN X (16 + 3 * t) q (by omega) (lC_times ht) (by omega) (by decide) dX2_append_19 (fun ρ_2 eρ_2 => ?_)
  refine g_aload_n X dX2_append_20 0 rfl rfl ?_
  refine g_dup X dX2_append_21 rfl ?_
  refine g_geti X (14 + 3 * t) (by omega) 2 (by decide) ku_X2 kv_X2 kf_X2_18 rfl (lC_f_length ht) dX2_append_22 ?_
  rw [show ρ_2 (14 + 3 * t) 2 = nI L by subst_vars; rw [up2_k (by omega), up2_k (by omega)]; exact hL]
  refine g_iconst X (v := 1) dX2_append_25 (by decide) ?_
  refine g_iadd X dX2_append_26 ?_
  rw [nI_1]
  refine g_puti X (14 + 3 * t) (by omega) 2 (by decide) ku_X2 kv_X2 kf_X2_18 rfl tyX2 tyX2_ok nmX2 rfl (by decide +kernel) (lC_f_length ht) dX2_append_27 (fun ρ_3 eρ_3 => ?_)
  refine g_aload_n X dX2_append_30 0 rfl rfl ?_
  refine g_geti X (14 + 3 * t) (by omega) 2 (by decide) ku_X2 kv_X2 kf_X2_18 rfl (lC_f_length ht) dX2_append_31 ?_
  rw [show ρ_3 (14 + 3 * t) 2 = nI (L + 1) by subst_vars; rw [up2_s]]
  exact g_iret X hr hlk (by omega) (by omega) dX2_append_34 (by subst_vars; exact ⟨rfl, rfl⟩)

set_option maxHeartbeats 1000000 in
set_option maxRecDepth 100000 in
theorem c_X2_soundSparing (l : Launch) (D : va_G) (cy : Nat → ClassId) (ad : Nat → Nat) (ρ : Nat → Nat → Int32) (t b : Nat) (sp : Int32) (ht : t < 6) (hb : isP b) : gMI l yX2_soundSparing cX2_soundSparing 5 (some .int) { frames := 2, cells := 0, slots := 0, locals := 42 } D cy 48 ad (cC ad cy) [.ref (ad (14 + 3 * t)), .ref (ad b), .int sp] ρ (fun r ρ1 => r = sndC ρ b t sp ∧ ρ1 = ρ) 0 0 := by
  refine gMI_of (ls := [(0, .ref (ad (14 + 3 * t))), (1, .ref (ad b)), (2, .int sp)]) RX2 rfl (by decide +kernel) (Nat.le_of_ble_eq_true rfl) rfl ?_
  intro p e s m args below meth c A X hr hlk hnm
  have hb9 := isP_lt hb
  refine g_aload_n X dX2_soundSparing_0 0 rfl rfl ?_
  refine g_geti X (14 + 3 * t) (by omega) 2 (by decide) ku_X2 kv_X2 kf_X2_18 rfl (lC_f_length ht) dX2_soundSparing_1 ?_
  refine g_if_ne X 9 dX2_soundSparing_4 (by decide) (fun c_1 => ?_) (fun c_1 => ?_)
  · skip
    refine g_iconst X (v := 0) dX2_soundSparing_9 (by decide) ?_
    refine g_istore_n X [(3, .int _), (0, .ref _), (1, .ref _), (2, .int _)] dX2_soundSparing_10 rfl (by decide) rfl ?_
    refine g_iconst X (v := 0) dX2_soundSparing_11 (by decide) ?_
    refine g_istore X [(4, .int _), (3, .int _), (0, .ref _), (1, .ref _), (2, .int _)] dX2_soundSparing_12 (by decide) rfl ?_
    refine g_ls (ls' := [(0, .ref _), (1, .ref _), (2, .int _), (3, .int _), (4, .int _)]) [2, 3, 4, 1, 0] rfl ?_
    refine g_loop (fun _ => True) (fun _ => ρ) (fun i => [(0, .ref (ad (14 + 3 * t))), (1, .ref (ad b)), (2, .int sp), (3, .int (sumI (fun i => if nI i = sp then 0 else ρ (16 + 3 * t) i * hP ρ b i) i)), (4, .int (nI i))]) (fun _ => 0) (fun _ => 0) 12 0 trivial (by omega) rfl rfl rfl rfl (fun i h0i hi hIi ihi => ?_)
    refine g_iload X dX2_soundSparing_14 4 rfl ?_
    refine g_bipush X (v := 12) dX2_soundSparing_16 (by decide) ?_
    refine g_icmp_geN X i 12 50 (by omega) (by omega) dX2_soundSparing_18 (by decide) (fun c_2 => ?_) (fun c_2 => ?_)
    · skip
      refine g_bipush X (v := 60) dX2_soundSparing_50 (by decide) ?_
      refine g_iload_n X dX2_soundSparing_52 3 rfl rfl ?_
      refine g_aload_n X dX2_soundSparing_53 0 rfl rfl ?_
      refine g_geti X (14 + 3 * t) (by omega) 2 (by decide) ku_X2 kv_X2 kf_X2_18 rfl (lC_f_length ht) dX2_soundSparing_54 ?_
      refine g_idiv X dX2_soundSparing_57 c_1 ?_
      refine g_isub X dX2_soundSparing_58 ?_
      exact g_iret X hr hlk (by omega) (by omega) dX2_soundSparing_59 (⟨by simp only [sndC]; rw [if_neg c_1, show i = 12 by omega], rfl⟩)
    · skip
      refine g_iload X dX2_soundSparing_21 4 rfl ?_
      refine g_iload_n X dX2_soundSparing_23 2 rfl rfl ?_
      refine g_icmp_eq X 44 dX2_soundSparing_24 (by decide) (fun c_3 => ?_) (fun c_3 => ?_)
      · skip
        refine g_iincN X i 4 [(4, .int _), (0, .ref _), (1, .ref _), (2, .int _), (3, .int _)] 4 dX2_soundSparing_44 rfl (by decide) rfl ?_
        refine g_goto X 14 dX2_soundSparing_47 (by decide) ?_
        refine g_ls (ls' := [(0, .ref _), (1, .ref _), (2, .int _), (3, .int _), (4, .int _)]) [1, 2, 3, 4, 0] rfl ?_
        exact g_eqv (ihi (by omega) trivial) (by simp only [sumI, *, ↓reduceIte, Int32.add_zero]) (rfl) rfl rfl
      · skip
        refine g_iload_n X dX2_soundSparing_27 3 rfl rfl ?_
        refine g_aload_n X dX2_soundSparing_28 0 rfl rfl ?_
        refine g_getr X (14 + 3 * t) (by omega) 1 (by decide) ku_X2 kv_X2 kf_X2_15 rfl (lC_f_times ht) dX2_soundSparing_29 ?_
        refine g_iload X dX2_soundSparing_32 4 rfl ?_
        refine g_ialdN X (16 + 3 * t) i (by omega) (lC_times ht) (by omega) (by decide) dX2_soundSparing_34 ?_
        refine g_aload_n X dX2_soundSparing_35 1 rfl rfl ?_
        refine g_iload X dX2_soundSparing_36 4 rfl ?_
        refine g_mcallVi X b (c_X0_harmOf l D cy ad ρ b i hb (by omega)) kl_X2_26 ⟨rfl, rfl, Nat.le_of_ble_eq_true rfl, Nat.le_of_ble_eq_true rfl⟩ (by omega) (lC_P hb) kv_X0 rfl rfl (Nat.le_of_ble_eq_true rfl) dX2_soundSparing_38 ⟨Nat.le_of_ble_eq_true rfl, Nat.le_of_ble_eq_true rfl⟩ (fun r_5 ρ_4 h_6 => ?_)
        obtain ⟨er_5, e9⟩ := h_6
        rw [e9, er_5]
        clear e9
        refine g_imul X dX2_soundSparing_41 ?_
        refine g_iadd X dX2_soundSparing_42 ?_
        refine g_istore_n X [(3, .int _), (0, .ref _), (1, .ref _), (2, .int _), (4, .int _)] dX2_soundSparing_43 rfl (by decide) rfl ?_
        refine g_iincN X i 4 [(4, .int _), (3, .int _), (0, .ref _), (1, .ref _), (2, .int _)] 4 dX2_soundSparing_44 rfl (by decide) rfl ?_
        refine g_goto X 14 dX2_soundSparing_47 (by decide) ?_
        refine g_ls (ls' := [(0, .ref _), (1, .ref _), (2, .int _), (3, .int _), (4, .int _)]) [2, 3, 4, 1, 0] rfl ?_
        exact g_eqv (ihi (by omega) trivial) (by simp only [sumI, *, ↓reduceIte, Int32.add_zero]) (rfl) rfl rfl
  · skip
    refine g_iconst X (v := 0) dX2_soundSparing_7 (by decide) ?_
    exact g_iret X hr hlk (by omega) (by omega) dX2_soundSparing_8 (⟨by simp only [sndC]; rw [if_pos c_1], rfl⟩)

set_option maxHeartbeats 1000000 in
set_option maxRecDepth 100000 in
theorem c_X2_soundOf (l : Launch) (D : va_G) (cy : Nat → ClassId) (ad : Nat → Nat) (ρ : Nat → Nat → Int32) (t b : Nat) (ht : t < 6) (hb : isP b) : gMI l yX2_soundOf cX2_soundOf 2 (some .int) { frames := 3, cells := 0, slots := 0, locals := 66 } D cy 48 ad (cC ad cy) [.ref (ad (14 + 3 * t)), .ref (ad b)] ρ (fun r ρ1 => r = sndC ρ b t (-1) ∧ ρ1 = ρ) 0 0 := by
  refine gMI_of (ls := [(0, .ref (ad (14 + 3 * t))), (1, .ref (ad b))]) RX2 rfl (by decide +kernel) (Nat.le_of_ble_eq_true rfl) rfl ?_
  intro p e s m args below meth c A X hr hlk hnm
  have hb9 := isP_lt hb
  refine g_aload_n X dX2_soundOf_0 0 rfl rfl ?_
  refine g_aload_n X dX2_soundOf_1 1 rfl rfl ?_
  refine g_iconst X (v := -1) dX2_soundOf_2 (by decide) ?_
  refine g_mcallVi X (14 + 3 * t) (c_X2_soundSparing l D cy ad ρ t b _ ht hb) kl_X2_22 ⟨rfl, rfl, Nat.le_of_ble_eq_true rfl, Nat.le_of_ble_eq_true rfl⟩ (by omega) (lC_T ht) kv_X2 rfl rfl (Nat.le_of_ble_eq_true rfl) dX2_soundOf_3 ⟨Nat.le_of_ble_eq_true rfl, Nat.le_of_ble_eq_true rfl⟩ (fun r_2 ρ_1 h_3 => ?_)
  obtain ⟨er_2, e9⟩ := h_3
  rw [e9, er_2]
  clear e9
  exact g_iret X hr hlk (by omega) (by omega) dX2_soundOf_6 (⟨rfl, rfl⟩)

set_option maxHeartbeats 1000000 in
set_option maxRecDepth 100000 in
theorem c_X2_wearDown (l : Launch) (D : va_G) (cy : Nat → ClassId) (ad : Nat → Nat) (ρ : Nat → Nat → Int32) (t b : Nat) (ht : t < 6) (hb : isP b) : gMV l yX2_wearDown cX2_wearDown 3 none { frames := 2, cells := 0, slots := 0, locals := 43 } D cy 48 ad (cC ad cy) [.ref (ad (14 + 3 * t)), .ref (ad b)] ρ (fun ρ1 => ρ1 = wdR ρ b t 12) 0 0 := by
  refine gMV_of (ls := [(0, .ref (ad (14 + 3 * t))), (1, .ref (ad b))]) RX2 rfl (by decide +kernel) (Nat.le_of_ble_eq_true rfl) rfl ?_
  intro p e s m args below meth c A X hr hlk hnm
  have hb9 := isP_lt hb
  refine g_iconst X (v := 0) dX2_wearDown_0 (by decide) ?_
  refine g_istore_n X [(2, .int _), (0, .ref _), (1, .ref _)] dX2_wearDown_1 rfl (by decide) rfl ?_
  refine g_ls (ls' := [(0, .ref _), (1, .ref _), (2, .int _)]) [1, 2, 0] rfl ?_
  refine g_loop (fun _ => True) (fun i => wdR ρ b t i) (fun i => [(0, .ref (ad (14 + 3 * t))), (1, .ref (ad b)), (2, .int (nI i))]) (fun _ => 0) (fun _ => 0) 12 0 trivial (by omega) rfl (by funext k j; simp [wdR]) rfl rfl (fun i h0i hi hIi ihi => ?_)
  obtain ⟨ρa, eρa⟩ : ∃ ρz, ρz = wdR ρ b t i := ⟨_, rfl⟩
  rw [← eρa]
  have qt : ∀ j, ρa (16 + 3 * t) j = ρ (16 + 3 * t) j := fun j => by rw [eρa]; simp only [wdR]; split; rw [if_neg (by omega), if_neg (by omega)]; rfl
  have qw : ρa (b + 1) i = ρ (b + 1) i := by rw [eρa]; simp [wdR]
  refine g_iload_n X dX2_wearDown_2 2 rfl rfl ?_
  refine g_bipush X (v := 12) dX2_wearDown_3 (by decide) ?_
  refine g_icmp_geN X i 12 34 (by omega) (by omega) dX2_wearDown_5 (by decide) (fun c_1 => ?_) (fun c_1 => ?_)
  · skip
    exact g_vret X hr hlk (by omega) (by omega) dX2_wearDown_34 (by subst_vars; rw [show i = 12 by omega])
  · skip
    refine g_aload_n X dX2_wearDown_8 0 rfl rfl ?_
    refine g_getr X (14 + 3 * t) (by omega) 1 (by decide) ku_X2 kv_X2 kf_X2_15 rfl (lC_f_times ht) dX2_wearDown_9 ?_
    refine g_iload_n X dX2_wearDown_12 2 rfl rfl ?_
    refine g_ialdN X (16 + 3 * t) i (by omega) (lC_times ht) (by omega) (by decide) dX2_wearDown_13 ?_
    rw [qt]
    refine g_if_le X 28 dX2_wearDown_14 (by decide) (fun c_2 => ?_) (fun c_2 => ?_)
    · skip
      refine g_iincN X i 2 [(2, .int _), (0, .ref _), (1, .ref _)] 2 dX2_wearDown_28 rfl (by decide) rfl ?_
      refine g_goto X 2 dX2_wearDown_31 (by decide) ?_
      refine g_ls (ls' := [(0, .ref _), (1, .ref _), (2, .int _)]) [1, 2, 0] rfl ?_
      exact g_eqv (ihi (by omega) trivial) (rfl) (by subst_vars; funext k j; simp only [up2_e, qw, wdR]; grind) rfl rfl
    · skip
      refine g_aload_n X dX2_wearDown_17 1 rfl rfl ?_
      refine g_iload_n X dX2_wearDown_18 2 rfl rfl ?_
      refine g_aload_n X dX2_wearDown_19 0 rfl rfl ?_
      refine g_getr X (14 + 3 * t) (by omega) 1 (by decide) ku_X2 kv_X2 kf_X2_15 rfl (lC_f_times ht) dX2_wearDown_20 ?_
      refine g_iload_n X dX2_wearDown_23 2 rfl rfl ?_
      refine g_ialdN X (16 + 3 * t) i (by omega) (lC_times ht) (by omega) (by decide) dX2_wearDown_24 ?_
      rw [qt]
      refine g_mcallVv X b (c_X0_wear l D cy ad ρa b i _ hb (by omega)) kl_X2_32 ⟨rfl, rfl, Nat.le_of_ble_eq_true rfl, Nat.le_of_ble_eq_true rfl⟩ (by omega) (lC_P hb) kv_X0 rfl rfl (Nat.le_of_ble_eq_true rfl) dX2_wearDown_25 ⟨Nat.le_of_ble_eq_true rfl, Nat.le_of_ble_eq_true rfl⟩ (fun ρ_3 h_5 => ?_)
      refine g_iincN X i 2 [(2, .int _), (0, .ref _), (1, .ref _)] 2 dX2_wearDown_28 rfl (by decide) rfl ?_
      refine g_goto X 2 dX2_wearDown_31 (by decide) ?_
      refine g_ls (ls' := [(0, .ref _), (1, .ref _), (2, .int _)]) [1, 2, 0] rfl ?_
      exact g_eqv (ihi (by omega) trivial) (rfl) (by subst_vars; funext k j; simp only [up2_e, qw, wdR]; grind) rfl rfl

set_option maxHeartbeats 1000000 in
set_option maxRecDepth 100000 in
theorem c_J9_floorMod_7cf53 (l : Launch) (D : va_G) (cy : Nat → ClassId) (ad : Nat → Nat) (ρ : Nat → Nat → Int32) (d : Nat) (hd : d < 2 ^ 31) : gMI l yJ9_floorMod_7cf53 cJ9_floorMod_7cf53 3 (some .int) { frames := 0, cells := 0, slots := 0, locals := 0 } D cy 48 ad (cC ad cy) [.int (nI d), .int (nI 7)] ρ (fun r ρ1 => r = nI (d % 7) ∧ ρ1 = ρ) 0 0 := by
  refine gMI_of (ls := [(0, .int (nI d)), (1, .int (nI 7))]) RJ9 rfl (by decide +kernel) (Nat.le_of_ble_eq_true rfl) rfl ?_
  intro p e s m args below meth c A X hr hlk hnm
  refine g_iload_n X dJ9_floorMod_7cf53_0 0 rfl rfl ?_
  refine g_iload_n X dJ9_floorMod_7cf53_1 1 rfl rfl ?_
  refine g_irem X dJ9_floorMod_7cf53_2 (by decide) ?_
  rw [show nI d - nI d / nI 7 * nI 7 = nI (d % 7) from pk_rem (d := 7) hd (by omega) (by omega)]
  refine g_istore_n X [(2, .int _), (0, .int _), (1, .int _)] dJ9_floorMod_7cf53_3 rfl (by decide) rfl ?_
  refine g_iload_n X dJ9_floorMod_7cf53_4 1 rfl rfl ?_
  refine g_iload_n X dJ9_floorMod_7cf53_5 2 rfl rfl ?_
  refine g_ixor X dJ9_floorMod_7cf53_6 ?_
  refine g_if_ge X 18 dJ9_floorMod_7cf53_7 (by decide) (fun c_1 => ?_) (fun c_1 => ?_)
  · skip
    refine g_iload_n X dJ9_floorMod_7cf53_18 0 rfl rfl ?_
    exact g_iret X hr hlk (by omega) (by omega) dJ9_floorMod_7cf53_19 (⟨rfl, rfl⟩)
  · exfalso; exact c_1 (xorN hd (by omega))

set_option maxHeartbeats 1000000 in
set_option maxRecDepth 100000 in
theorem c_X3_weekdayOf (l : Launch) (D : va_G) (cy : Nat → ClassId) (ad : Nat → Nat) (ρ : Nat → Nat → Int32) (d : Nat) (hd : d < 2 ^ 31) : gMI l yX3_weekdayOf cX3_weekdayOf 1 (some .int) { frames := 1, cells := 0, slots := 0, locals := 22 } D cy 48 ad (cC ad cy) [.int (nI d)] ρ (fun r ρ1 => r = nI (d % 7) ∧ ρ1 = ρ) 0 0 := by
  refine gMI_of (ls := [(0, .int (nI d))]) RX3 rfl (by decide +kernel) (Nat.le_of_ble_eq_true rfl) rfl ?_
  intro p e s m args below meth c A X hr hlk hnm
  refine g_iload_n X dX3_weekdayOf_0 0 rfl rfl ?_
  refine g_bipush X (v := 7) dX3_weekdayOf_1 (by decide) ?_
  refine g_mcallSi X (c_J9_floorMod_7cf53 l D cy ad ρ d (by omega)) kl_X3_210 ⟨rfl, rfl, Nat.le_of_ble_eq_true rfl, Nat.le_of_ble_eq_true rfl⟩ rfl rfl (Nat.le_of_ble_eq_true rfl) dX3_weekdayOf_3 ⟨Nat.le_of_ble_eq_true rfl, Nat.le_of_ble_eq_true rfl⟩ (fun r_2 ρ_1 h_3 => ?_)
  obtain ⟨er_2, e9⟩ := h_3
  rw [e9, er_2]
  clear e9
  exact g_iret X hr hlk (by omega) (by omega) dX3_weekdayOf_6 (⟨rfl, rfl⟩)
end
section
/-! The calls as functions of the class's cells: the answer's kind (0: it returns; 1, 2: which of its exceptions), the answer, the cells behind it -/
abbrev inb (x m : Int32) : Prop := ¬ x < 0 ∧ x < m
abbrev inl (x m : Int32) : Prop := ¬ x < 0 ∧ x ≤ m
abbrev ix (x : Int32) : Nat := x.toNatClampNeg
abbrev gSt : Type := Nat → Nat → Int32
abbrev gOut : Type := Nat × Int32 × gSt
def barF (ρ : gSt) : gOut := if ρ 0 5 = 6 then (1, 0, ρ) else (0, ρ 0 5, up2 ρ 0 5 (ρ 0 5 + 1))
def pinF (ρ : gSt) (x y : Int32) : gOut := if inb x (ρ 0 5) then (if inb y 12 then (if ρ (14 + 3 * ix x) 2 = 16 then (2, 0, ρ) else (0, ρ (14 + 3 * ix x) 2 + 1, up2 (up2 (up2 ρ (15 + 3 * ix x) (ix (ρ (14 + 3 * ix x) 2)) y) (16 + 3 * ix x) (ix y) (ρ (16 + 3 * ix x) (ix y) + 1)) (14 + 3 * ix x) 2 (ρ (14 + 3 * ix x) 2 + 1))) else (1, 0, ρ)) else (1, 0, ρ)
def notF (ρ : gSt) (x y : Int32) : gOut := if inb x (ρ 0 5) then (if inb y (ρ (14 + 3 * ix x) 2) then (0, ρ (15 + 3 * ix x) (ix y), ρ) else (1, 0, ρ)) else (1, 0, ρ)
def strF (ρ : gSt) (x y : Int32) : gOut := if inl x 90 then (if inl y 127 then (if ρ 0 6 = 8 then (2, 0, ρ) else (0, ρ 0 6, up2 (up2 (up2 ρ (32 + 2 * ix (ρ 0 6)) 1 x) (32 + 2 * ix (ρ 0 6)) 2 y) 0 6 (ρ 0 6 + 1))) else (1, 0, ρ)) else (1, 0, ρ)
def perF (ρ : gSt) (x y : Int32) : gOut := if inb x (ρ 0 6) then (if inl y 127 then (0, ρ (32 + 2 * ix x) 2, up2 ρ (32 + 2 * ix x) 2 y) else (2, 0, ρ)) else (1, 0, ρ)
def damF (ρ : gSt) (x y : Int32) : gOut := if inb x 7 then (if inl y 5 then (0, ρ 13 (ix x), up2 ρ 13 (ix x) y) else (2, 0, ρ)) else (1, 0, ρ)
def finR (ρ : gSt) : gSt := up2 (up2 ρ 0 8 (ρ 0 8 - mnI 10 (ρ 0 8))) 0 9 (ρ 0 9 + mnI 10 (ρ 0 8))
def plyR (ρ : gSt) (z t : Nat) : gSt := wdR (up2 (up2 (up2 ρ 0 8 (ρ 0 8 + pyN ρ z t)) (32 + 2 * z) 3 (ρ (32 + 2 * z) 3 + pyN ρ z t)) (33 + 2 * z) t (ρ (33 + 2 * z) t + 1)) 1 t 12
def plaF (ρ : gSt) (x y : Int32) : gOut := if inb x (ρ 0 6) then (if inb y (ρ 0 5) then (if ρ (14 + 3 * ix y) 2 = 0 then (2, 0, ρ) else (if pmF (ρ (32 + 2 * ix x) 2) (wdF ρ) = 0 then (0, -mnI 10 (ρ 0 8), finR ρ) else (0, pyN ρ (ix x) (ix y), plyR ρ (ix x) (ix y)))) else (1, 0, ρ)) else (1, 0, ρ)
def tunF (ρ : gSt) (x y : Int32) : gOut := if inb x 12 then (if ¬ y < -120 ∧ y ≤ 120 then (0, hd (ρ 3 (ix x) + y), up2 ρ 3 (ix x) (hd (ρ 3 (ix x) + y))) else (2, 0, ρ)) else (1, 0, ρ)
def felF (ρ : gSt) (x : Int32) : gOut := if inb x 12 then (if ρ 0 8 < 4 then (2, 0, ρ) else (0, ρ 2 (ix x), up2 (up2 ρ 0 8 (ρ 0 8 - 4)) 2 (ix x) 0)) else (1, 0, ρ)
def pipF (ρ : gSt) (x y : Int32) : gOut := if inb x 12 then (if inb y 5 then (0, tellF ρ 1 (ix x) (ix y), ρ) else (1, 0, ρ)) else (1, 0, ρ)
def souF (ρ : gSt) (x : Int32) : gOut := if inb x (ρ 0 5) then (0, sndC ρ 1 (ix x) (-1), ρ) else (1, 0, ρ)
def tolF (ρ : gSt) (x y : Int32) : gOut := if inb x (ρ 0 6) then (if inb y 5 then (0, toldF ρ (ix x) (ix y) (wdF ρ), ρ) else (1, 0, ρ)) else (1, 0, ρ)
def couF (ρ : gSt) (x : Int32) : gOut := if inb x 9 then (0, countF ρ (ix x), ρ) else (1, 0, ρ)
def fgA (ρ : gSt) (q : Nat) : gSt := fun k j => if 33 ≤ k ∧ k < 33 + 2 * q ∧ k % 2 = 1 ∧ j < 6 then 0 else ρ k j
def resR (ρ : gSt) (n : Nat) : gSt := up2 (fgA (nsR ρ 1 (ix (ρ 0 7)) n) (ix (ρ 0 6))) 0 7 (nI (ix (ρ 0 7) + n))
def resF (ρ : gSt) (x : Int32) : gOut := if ¬ x < 1 ∧ x ≤ 60 then (0, csF ρ 1 (ix (ρ 0 7)) (ix x), resR ρ (ix x)) else (1, 0, ρ)
def payF (ρ : gSt) (x y : Int32) : gOut := if inb x (ρ 0 6) then (if inb y (ρ 0 5) then (0, pyN ρ (ix x) (ix y), ρ) else (1, 0, ρ)) else (1, 0, ρ)
def bsP (ρ : gSt) (z : Nat) : Nat → Int32 × Int32
  | 0 => (0, -1)
  | k + 1 => if pyN ρ z k ≤ (bsP ρ z k).1 then bsP ρ z k else (pyN ρ z k, nI k)
def besF (ρ : gSt) (x : Int32) : gOut := if inb x (ρ 0 6) then (0, (bsP ρ (ix x) (ix (ρ 0 5))).2, ρ) else (1, 0, ρ)
def wsP (ρ : gSt) (t : Nat) : Nat → Int32 × Int32
  | 0 => (sndC ρ 1 t (-1), -1)
  | k + 1 => if sndC ρ 1 t (nI k) ≤ (wsP ρ t k).1 then wsP ρ t k else (sndC ρ 1 t (nI k), nI k)
def worF (ρ : gSt) (x : Int32) : gOut := if inb x (ρ 0 5) then (0, (wsP ρ (ix x) 12).2, ρ) else (1, 0, ρ)
def forR (ρ : gSt) (n : Nat) : gSt := nsR (becR ρ 12) 6 (ix (ρ 0 7)) n
def forF (ρ : gSt) (x y : Int32) : gOut := if ¬ x < 1 ∧ x ≤ 60 then (if ¬ y < 5 ∧ y ≤ 7 then (0, sumUpF (forR ρ (ix x)) 6 (ix y), forR ρ (ix x)) else (2, 0, ρ)) else (1, 0, ρ)
/-- the trial behind k plays -/
def trR (ρ : gSt) (t : Nat) : Nat → gSt
  | 0 => becR ρ 12
  | k + 1 => wdR (trR ρ t k) 6 t 12
def laK (ρ : gSt) (t : Nat) : Nat → Nat → Nat
  | 0, k => k
  | f + 1, k => if sndC (trR ρ t k) 6 t (-1) < 30 then k else laK ρ t f (k + 1)
def lasF (ρ : gSt) (x : Int32) : gOut := if inb x (ρ 0 5) then (0, nI (laK ρ (ix x) 99 0), trR ρ (ix x) (laK ρ (ix x) 99 0)) else (1, 0, ρ)
def meaF (ρ : gSt) : UInt64 := if ρ 0 5 = 0 then 0 else FP.ddiv (FP.i2d (sumI (fun t => sndC ρ 1 t (-1)) (ix (ρ 0 5)))) (FP.i2d (ρ 0 5))
def fold1 (g : Nat → Int64 → Int64) : Nat → Int64 → Int64
  | 0, d => d
  | k + 1, d => g k (fold1 g k d)
def digF (ρ : gSt) : Int64 := fold1 (msF ρ) (ix (ρ 0 6)) (fold1 (mtF ρ) (ix (ρ 0 5)) (mxs (fun j => ρ 13 j) 7 (fold1 (fun i d => mxs (fun w => tellF ρ 1 i w) 5 d) 12 (mxs (countF ρ) 9 1097))))
/-- what holds of the class's cells between two calls, behind N of them -/
def cntI (f : Nat → Int32) (x : Int32) (k : Nat) : Int32 := sumI (fun j => if f j = x then 1 else 0) k
def tunI (ρ : gSt) (t : Nat) : Prop := ∃ L : Nat, ρ (14 + 3 * t) 2 = nI L ∧ L ≤ 16 ∧ (∀ k, k < L → ∃ q : Nat, q < 12 ∧ ρ (15 + 3 * t) k = nI q) ∧ ∀ q, q < 12 → ρ (16 + 3 * t) q = cntI (ρ (15 + 3 * t)) (nI q) L
def strI (ρ : gSt) (N z : Nat) : Prop := (∃ u : Nat, u ≤ 90 ∧ ρ (32 + 2 * z) 1 = nI u) ∧ ∀ t, t < 6 → ∃ h : Nat, h ≤ N ∧ ρ (33 + 2 * z) t = nI h
def pipI (ρ : gSt) (b i : Nat) : Prop := (∃ w : Nat, w ≤ 30 ∧ ρ (b + 1) i = nI w) ∧ (-60 ≤ ρ (b + 2) i ∧ ρ (b + 2) i ≤ 60) ∧ (ρ (b + 3) i = 0 ∨ ρ (b + 3) i = 1) ∧ (ρ (b + 4) i = 0 ∨ ρ (b + 4) i = 1)
def Inv (ρ : gSt) (N T S d : Nat) : Prop := ρ 0 5 = nI T ∧ T ≤ 6 ∧ ρ 0 6 = nI S ∧ S ≤ 8 ∧ ρ 0 7 = nI d ∧ d ≤ 60 * N ∧ N ≤ 600 ∧ (∀ t, t < 6 → tunI ρ t) ∧ (∀ z, z < 8 → strI ρ N z) ∧ (∀ i, i < 12 → pipI ρ 1 i) ∧ (∀ z, S ≤ z → z < 8 → ∀ t, t < 6 → ρ (33 + 2 * z) t = 0) ∧ ∀ z, z < 8 → ∀ t, T ≤ t → t < 6 → ρ (33 + 2 * z) t = 0
abbrev hdd (y : Int32) : Int32 := hd y
theorem inb_N {x m : Int32} {T : Nat} (hm : m = nI T) (hT : T < 2 ^ 31) (h : inb x m) : ∃ t : Nat, t < T ∧ x = nI t := by
  rcases pk_ix x hT with q | q | q
  · exact absurd q h.1
  · rw [hm] at h
    rw [Int32.le_iff_toInt_le] at q
    have := Int32.lt_iff_toInt_lt.mp h.2
    omega
  · exact q
theorem inl_N {x m : Int32} {K : Nat} (hm : m = nI K) (hK : K < 2 ^ 30) (h : inl x m) : ∃ t : Nat, t ≤ K ∧ x = nI t := by
  subst hm
  exact nI_of2 (nI_toInt (by omega)) h.1 h.2
theorem inb_of {t T : Nat} (h : t < T) (hT : T < 2 ^ 31) : inb (nI t) (nI T) := ⟨fun q => by
  rw [show (0 : Int32) = nI 0 from rfl, nI_ltI (by omega) (by omega)] at q
  omega, (nI_ltI (by omega) hT).mpr h⟩
theorem inl_of {t T : Nat} (h : t ≤ T) (hT : T < 2 ^ 31) : inl (nI t) (nI T) := ⟨fun q => by
  rw [show (0 : Int32) = nI 0 from rfl, nI_ltI (by omega) (by omega)] at q
  omega, (nI_leI (by omega) hT).mpr h⟩
theorem nig_N {x : Int32} (h : ¬ x < 1 ∧ x ≤ 60) : ∃ n : Nat, (1 ≤ n ∧ n ≤ 60) ∧ x = nI n := by
  have h0 : ¬ x < 0 := fun q => h.1 (Int32.lt_iff_toInt_lt.mpr (by have := Int32.lt_iff_toInt_lt.mp q; have e0 : (0 : Int32).toInt = 0 := rfl; have e1 : (1 : Int32).toInt = 1 := rfl; omega))
  obtain ⟨n, hn, rfl⟩ := nI_of2 (M := 60) (n := 60) rfl h0 h.2
  refine ⟨n, ⟨?_, hn⟩, rfl⟩
  rcases Nat.eq_zero_or_pos n with q | q
  · subst q
    exact absurd (by decide) h.1
  · exact q
theorem nI_ne {a b : Nat} (h : a ≠ b) (ha : a < 2 ^ 31) (hb : b < 2 ^ 31) : ¬ nI a = nI b := fun q => h ((nI_eq ha hb).mp q)
theorem fs_N {y : Int32} (h : ¬ y < 5 ∧ y ≤ 7) : ∃ w : Nat, (w = 5 ∨ w = 6 ∨ w = 7) ∧ y = nI w := by
  have h0 : ¬ y < 0 := fun q => h.1 (Int32.lt_iff_toInt_lt.mpr (by have := Int32.lt_iff_toInt_lt.mp q; have e0 : (0 : Int32).toInt = 0 := rfl; have e1 : (5 : Int32).toInt = 5 := rfl; omega))
  obtain ⟨n, hn, rfl⟩ := nI_of2 (M := 7) (n := 7) rfl h0 h.2
  refine ⟨n, ?_, rfl⟩
  rcases Nat.lt_or_ge n 5 with q | q
  · exact absurd ((nI_ltI (b := 5) (by omega) (by omega)).mpr q) h.1
  · omega
theorem fgA_0 {ρ : gSt} : fgA ρ 0 = ρ := by
  funext k j
  unfold fgA
  rw [if_neg (by omega)]
theorem laK_spec {ρ : gSt} {t K : Nat} (hK : K ≤ 99) (h1 : ∀ j, j < K → ¬ sndC (trR ρ t j) 6 t (-1) < 30) (h2 : K = 99 ∨ sndC (trR ρ t K) 6 t (-1) < 30) : laK ρ t 99 0 = K := by
  have key : ∀ f k, k ≤ K → f + k = 99 → laK ρ t f k = K := by
    intro f
    induction f with
    | zero => intro k hk h; simp only [laK]; omega
    | succ f ih =>
      intro k hk h
      simp only [laK]
      by_cases hq : k = K
      · subst hq
        rw [if_pos (h2.resolve_left (by omega))]
      · rw [if_neg (h1 k (by omega))]
        exact ih (k + 1) (by omega) (by omega)
  exact key 99 0 (by omega) (by omega)
def xq1 (e1 : String) (k : Nat) : String → Prop := fun E => E = e1 ∧ k = 1
def xq2 (e1 e2 : String) (k : Nat) : String → Prop := fun E => (E = e1 ∧ k = 1) ∨ (E = e2 ∧ k = 2)
end
section
/-! What the invariant gives, and that every call keeps it -/
def snR (ρ : gSt) (b q : Nat) : gSt := up2 (up2 ρ (b + 1) q (mnI 30 (ρ (b + 1) q + 1))) (b + 4) q 1
/-- a tune's first k notes sung -/
def sgR (ρ : gSt) (b t : Nat) : Nat → gSt
  | 0 => ρ
  | k + 1 => snR (sgR ρ b t k) b (ix (ρ (15 + 3 * t) k))
theorem mn_N {x y : Nat} (hx : x < 2 ^ 31) (hy : y < 2 ^ 31) : mnI (nI x) (nI y) = nI (min x y) := by
  unfold mnI
  by_cases h : y < x
  · rw [if_pos ((nI_ltI hy hx).mpr h), Nat.min_eq_right (by omega)]
  · rw [if_neg (fun q => h ((nI_ltI hy hx).mp q)), Nat.min_eq_left (by omega)]
theorem cntI_s {f : Nat → Int32} {x : Int32} {k : Nat} : cntI f x (k + 1) = cntI f x k + (if f k = x then 1 else 0) := rfl
theorem cnt_N {f : Nat → Int32} {x : Int32} {L : Nat} : ∃ q : Nat, q ≤ L ∧ cntI f x L = nI q := by
  induction L with
  | zero => exact ⟨0, Nat.le_refl 0, rfl⟩
  | succ L ih =>
    obtain ⟨q, hq, e⟩ := ih
    rw [cntI_s, e]
    by_cases h : f L = x
    · exact ⟨q + 1, by omega, by rw [if_pos h, nI_1]⟩
    · exact ⟨q, by omega, by rw [if_neg h, Int32.add_zero]⟩
theorem sumI_add {f g : Nat → Int32} {k : Nat} : sumI (fun j => f j + g j) k = sumI f k + sumI g k := by
  induction k with
  | zero => rfl
  | succ k ih =>
    rw [sumI_s, sumI_s, sumI_s, ih, Int32.add_assoc, Int32.add_assoc]
    congr 1
    rw [← Int32.add_assoc, Int32.add_comm (sumI g k) (f k), Int32.add_assoc]
theorem sumI_z {k : Nat} : sumI (fun _ => 0) k = 0 := by
  induction k with
  | zero => rfl
  | succ k ih => rw [sumI_s, ih]; rfl
theorem sumI_N {f : Nat → Int32} {M k : Nat} (h : ∀ j, j < k → ∃ u : Nat, u ≤ M ∧ f j = nI u) : ∃ s : Nat, s ≤ M * k ∧ sumI f k = nI s := by
  induction k with
  | zero => exact ⟨0, Nat.zero_le _, rfl⟩
  | succ k ih =>
    obtain ⟨s, hs, e⟩ := ih (fun j hj => h j (by omega))
    obtain ⟨u, hu, e2⟩ := h k (by omega)
    exact ⟨s + u, by rw [Nat.mul_succ]; omega, by rw [sumI_s, e, e2, nI_add]⟩
theorem sumI_dl {g : Nat → Int32} {q : Nat} (hq : q < 2 ^ 31) : ∀ n : Nat, n < 2 ^ 31 → sumI (fun i => if nI q = nI i then g i else 0) n = if q < n then g q else 0 := by
  intro n
  induction n with
  | zero => intro _; rw [if_neg (Nat.not_lt_zero q)]; rfl
  | succ n ih =>
    intro hn
    rw [sumI_s, ih (by omega)]
    rcases Nat.lt_trichotomy q n with h | h | h
    · rw [if_pos h, if_neg (nI_ne (by omega) hq (by omega)), if_pos (by omega), Int32.add_zero]
    · subst h
      rw [if_neg (Nat.lt_irrefl q), if_pos rfl, if_pos (by omega), Int32.zero_add]
    · rw [if_neg (by omega), if_neg (nI_ne (by omega) hq (by omega)), if_neg (by omega), Int32.zero_add]
theorem sum_sw {f g : Nat → Int32} {sp : Int32} {L : Nat} (hn : ∀ k, k < L → ∃ q : Nat, q < 12 ∧ f k = nI q) : sumI (fun i => if nI i = sp then 0 else cntI f (nI i) L * g i) 12 = sumI (fun k => if f k = sp then 0 else g (ix (f k))) L := by
  induction L with
  | zero =>
    have : sumI (fun i => if nI i = sp then 0 else cntI f (nI i) 0 * g i) 12 = sumI (fun _ => 0) 12 := sumI_congr (fun j _ => by
      show (if nI j = sp then 0 else (0 : Int32) * g j) = 0
      rw [Int32.zero_mul, ite_self])
    rw [this, sumI_z]
    rfl
  | succ L ih =>
    obtain ⟨q, hq, e⟩ := hn L (by omega)
    have h1 : sumI (fun i => if nI i = sp then 0 else cntI f (nI i) (L + 1) * g i) 12 = sumI (fun i => (if nI i = sp then 0 else cntI f (nI i) L * g i) + (if nI q = nI i then (if nI i = sp then 0 else g i) else 0)) 12 := sumI_congr (fun j _ => by
      show (if nI j = sp then 0 else cntI f (nI j) (L + 1) * g j) = (if nI j = sp then 0 else cntI f (nI j) L * g j) + (if nI q = nI j then (if nI j = sp then 0 else g j) else 0)
      rw [cntI_s, e]
      by_cases h9 : nI j = sp
      · simp only [if_pos h9, ite_self]
        rfl
      · simp only [if_neg h9]
        by_cases h8 : nI q = nI j
        · rw [if_pos h8, if_pos h8, Int32.add_mul, Int32.one_mul]
        · rw [if_neg h8, if_neg h8, Int32.add_zero, Int32.add_zero])
    rw [h1, sumI_add, ih (fun k hk => hn k (by omega)), sumI_dl (g := fun i => if nI i = sp then 0 else g i) (by omega) 12 (by omega), if_pos hq, sumI_s, e, show ix (nI q) = q from nI_clamp (by omega)]
theorem snd_eq {ρ : gSt} {b t L : Nat} {sp : Int32} (hL : ρ (14 + 3 * t) 2 = nI L) (hL16 : L ≤ 16) (hLn : ∀ k, k < L → ∃ q : Nat, q < 12 ∧ ρ (15 + 3 * t) k = nI q) (hLc : ∀ q, q < 12 → ρ (16 + 3 * t) q = cntI (ρ (15 + 3 * t)) (nI q) L) : sndC ρ b t sp = if ρ (14 + 3 * t) 2 = 0 then 0 else 60 - sumI (fun k => if ρ (15 + 3 * t) k = sp then 0 else hP ρ b (ix (ρ (15 + 3 * t) k))) L / ρ (14 + 3 * t) 2 := by
  unfold sndC
  rw [show sumI (fun i => if nI i = sp then 0 else ρ (16 + 3 * t) i * hP ρ b i) 12 = sumI (fun i => if nI i = sp then 0 else cntI (ρ (15 + 3 * t)) (nI i) L * hP ρ b i) 12 from sumI_congr (fun j hj => by rw [hLc j hj]), sum_sw (g := hP ρ b) hLn]
theorem ab_N {x : Int32} (ho : -60 ≤ x ∧ x ≤ 60) : ∃ q : Nat, q ≤ 60 ∧ ab x = nI q := by
  unfold ab
  have h1 := Int32.le_iff_toInt_le.mp ho.1
  have h2 := Int32.le_iff_toInt_le.mp ho.2
  have e1 : (-60 : Int32).toInt = -60 := by decide
  have e2 : (60 : Int32).toInt = 60 := by decide
  have e0 : (0 : Int32).toInt = 0 := by decide
  by_cases h : 0 ≤ x
  · rw [if_pos h]
    exact nI_of2 (M := 60) (n := 60) rfl (Int32.not_lt.mpr h) ho.2
  · rw [if_neg h]
    have h3 : ¬ (0 : Int) ≤ x.toInt := fun q => h (Int32.le_iff_toInt_le.mpr (by rw [e0]; exact q))
    have h4 : (0 - x).toInt = - x.toInt := by
      rw [Int32.toInt_sub, e0, Int.bmod_def]
      split <;> omega
    refine nI_of2 (M := 60) (n := 60) rfl (fun q => ?_) ?_
    · have := Int32.lt_iff_toInt_lt.mp q
      omega
    · rw [Int32.le_iff_toInt_le, h4, e2]
      omega
theorem hP_N {ρ : gSt} {b i : Nat} (h : pipI ρ b i) : ∃ q : Nat, q ≤ 60 ∧ hP ρ b i = nI q := by
  obtain ⟨⟨u, hu, eu⟩, ho, _⟩ := h
  obtain ⟨q, hq, eq⟩ := ab_N ho
  unfold hP hm
  by_cases h : ρ (b + 3) i = 0
  · rw [if_pos h, eq, eu, show (2 : Int32) * nI u = nI (2 * u) from pk_mul 2 u, nI_add]
    exact ⟨min 60 (q + 2 * u), Nat.min_le_left _ _, mn_N (x := 60) (by omega) (by omega)⟩
  · rw [if_neg h]
    exact ⟨60, by omega, rfl⟩
theorem snd_N {ρ : gSt} {b t : Nat} {sp : Int32} (hT : tunI ρ t) (hp : ∀ i, i < 12 → pipI ρ b i) : ∃ u : Nat, u ≤ 60 ∧ sndC ρ b t sp = nI u := by
  obtain ⟨L, hL, hL16, hLn, hLc⟩ := hT
  rw [snd_eq hL hL16 hLn hLc, hL]
  by_cases h0 : nI L = 0
  · exact ⟨0, by omega, by rw [if_pos h0]; rfl⟩
  · have hL0 : L ≠ 0 := fun q => h0 (by rw [q]; rfl)
    obtain ⟨s, hs, e⟩ := sumI_N (M := 60) (f := fun k => if ρ (15 + 3 * t) k = sp then 0 else hP ρ b (ix (ρ (15 + 3 * t) k))) (k := L) (fun j hj => by
      show ∃ u : Nat, u ≤ 60 ∧ (if ρ (15 + 3 * t) j = sp then 0 else hP ρ b (ix (ρ (15 + 3 * t) j))) = nI u
      by_cases h9 : ρ (15 + 3 * t) j = sp
      · exact ⟨0, by omega, by rw [if_pos h9]; rfl⟩
      · rw [if_neg h9]
        obtain ⟨q, hq, eq⟩ := hLn j hj
        rw [eq, show ix (nI q) = q from nI_clamp (by omega)]
        exact hP_N (hp q hq))
    have h5 : s / L ≤ 60 := Nat.div_le_of_le_mul (by rw [Nat.mul_comm]; exact hs)
    refine ⟨60 - s / L, Nat.sub_le _ _, ?_⟩
    rw [if_neg h0, e, pk_div (by omega) (by omega) (by omega), show (60 : Int32) = nI 60 from rfl, pk_sub h5]
theorem Inv_pay {ρ : gSt} {N T S d z t : Nat} (hI : Inv ρ N T S d) (hz : z < 8) (ht : t < 6) : payOK ρ z t (sndC ρ 1 t (-1)) := by
  obtain ⟨hT, hT6, hS, hS8, hd, hdN, hN, hTu, hSt, hPi, hZ, hHd⟩ := id hI
  obtain ⟨⟨u, hu, eu⟩, hh⟩ := hSt z hz
  obtain ⟨h, hhN, eh⟩ := hh t ht
  obtain ⟨v, hv, ev⟩ := snd_N (sp := -1) (hTu t ht) hPi
  have h1 : u * v ≤ 90 * 60 := Nat.mul_le_mul hu hv
  have h2 : u * v / 60 ≤ u * v := Nat.div_le_self _ _
  refine ⟨u * v / 60, h, ?_, by omega, eh, by omega⟩
  rw [eu, ev, pk_mul]
  exact pk_div (d := 60) (by omega) (by omega) (by omega)
theorem mean_dec : ∀ s : Fin 361, ∀ t : Fin 7, t.val = 0 ∨ (FP.ddiv (FP.i2d (nI s.val)) (FP.i2d (nI t.val))) &&& 0x7fffffffffffffff ≤ 0x7ff0000000000000 := by decide +kernel
theorem Inv_mean {ρ : gSt} {N T S d : Nat} (hI : Inv ρ N T S d) (h0 : ¬ nI T = 0) : vf_n64 (FP.ddiv (FP.i2d (sumI (fun t => sndC ρ 1 t (-1)) T)) (FP.i2d (nI T))) := by
  obtain ⟨hT, hT6, hS, hS8, hd, hdN, hN, hTu, hSt, hPi, hZ, hHd⟩ := id hI
  obtain ⟨s, hs, e⟩ := sumI_N (M := 60) (f := fun t => sndC ρ 1 t (-1)) (k := T) (fun j hj => snd_N (hTu j (by omega)) hPi)
  rw [e]
  exact (mean_dec ⟨s, by omega⟩ ⟨T, by omega⟩).resolve_left (fun q => h0 (by rw [show T = 0 from q]; rfl))
theorem shr_dec : ∀ k : Fin 21, ((nI k.val).toBitVec.smod 32).toNat = k.val := by decide +kernel
theorem pay_shift {ρ : gSt} {z t P h : Nat} (hP1 : ρ (32 + 2 * z) 1 * sndC ρ 1 t (-1) / 60 = nI P) (hP20 : P < 2 ^ 20) (hh : ρ (33 + 2 * z) t = nI h) (hh31 : h < 2 ^ 31) : nI P >>> (mnI 20 (nI h) &&& 31) = pyN ρ z t := by
  unfold pyN payV
  rw [hP1, hh, nI_clamp (by omega), nI_clamp hh31, show mnI 20 (nI h) = nI (min 20 h) from mn_N (x := 20) (by omega) hh31, pk_andN (by omega) 5 rfl, show min 20 h % 2 ^ 5 = min 20 h by omega, pk_shrN (by omega) (nI (min 20 h)) (min 20 h) (shr_dec ⟨min 20 h, by omega⟩)]
  by_cases q : h ≤ 20
  · rw [Nat.min_eq_right q]
  · rw [Nat.min_eq_left (by omega), Nat.div_eq_of_lt hP20, Nat.div_eq_of_lt (Nat.lt_of_lt_of_le hP20 (Nat.pow_le_pow_right (by omega) (by omega)))]
theorem hrd_T {ρ : gSt} {z T : Nat} (hT6 : T ≤ 6) (hH : ∀ t, T ≤ t → t < 6 → ρ (33 + 2 * z) t = 0) : sumI (fun j => ρ (33 + 2 * z) j) T = hrd ρ z := by
  unfold hrd
  have key : ∀ n, T ≤ n → n ≤ 6 → sumI (fun j => ρ (33 + 2 * z) j) n = sumI (fun j => ρ (33 + 2 * z) j) T := by
    intro n
    induction n with
    | zero => intro h _; rw [show T = 0 by omega]
    | succ n ih =>
      intro h h6
      rcases Nat.lt_or_ge n T with q | q
      · rw [show n + 1 = T by omega]
      · rw [sumI_s, ih q (by omega), hH n q (by omega), Int32.add_zero]
  exact (key 6 hT6 (Nat.le_refl 6)).symm
theorem heard_T {ρ : gSt} {N T S d z : Nat} (hI : Inv ρ N T S d) (hz : z < 8) : ∀ t, T ≤ t → t < 6 → ρ (33 + 2 * z) t = 0 := by
  obtain ⟨hT, hT6, hS, hS8, hd, hdN, hN, hTu, hSt, hPi, hZ, hHd⟩ := hI
  exact hHd z hz
theorem pm1 {x y : Int32} (h : ¬ pmF x y = 0) : pmF x y = 1 := by
  unfold pmF at *
  split
  · rfl
  · rename_i q
    rw [if_neg q] at h
    exact absurd rfl h
theorem hd_b {y : Int32} : -60 ≤ hd y ∧ hd y ≤ 60 := by
  have e1 : (-60 : Int32).toInt = -60 := by decide
  have e2 : (60 : Int32).toInt = 60 := by decide
  unfold hd mxI mnI
  by_cases h1 : y < 60
  · rw [if_pos h1]
    by_cases h2 : -60 < y
    · rw [if_pos h2]
      exact ⟨Int32.le_of_lt h2, Int32.le_of_lt h1⟩
    · rw [if_neg h2]
      exact ⟨by decide, by decide⟩
  · rw [if_neg h1]
    exact ⟨by decide, by decide⟩
theorem pip_cg {ρ σ : gSt} {b i : Nat} (h : pipI ρ b i) (h1 : σ (b + 1) i = ρ (b + 1) i) (h2 : σ (b + 2) i = ρ (b + 2) i) (h3 : σ (b + 3) i = ρ (b + 3) i) (h4 : σ (b + 4) i = ρ (b + 4) i) : pipI σ b i := by
  unfold pipI
  rw [h1, h2, h3, h4]
  exact h
theorem nt_pip {ρ : gSt} {b i n : Nat} {v : Int32} (h : pipI ρ b i) : pipI (ntR ρ b v n) b i := by
  obtain ⟨hw, ho, hc, hs⟩ := h
  unfold pipI ntR
  by_cases q : i < n
  · simp only [if_pos q]
    refine ⟨?_, ?_, ?_, ?_⟩
    · rw [if_neg (by omega), if_neg (by omega), if_neg (by omega)]
      exact hw
    · rw [if_pos trivial]
      exact hd_b
    · rw [if_neg (by omega), if_pos trivial]
      split
      · exact Or.inr rfl
      · exact hc
    · rw [if_neg (by omega), if_neg (by omega), if_pos trivial]
      exact Or.inl rfl
  · simp only [if_neg q]
    exact ⟨hw, ho, hc, hs⟩
theorem ns_pip {ρ : gSt} {b i n d : Nat} (h : pipI ρ b i) : pipI (nsR ρ b d n) b i := by
  induction n with
  | zero => exact h
  | succ n ih => exact nt_pip ih
theorem bec_pip {ρ : gSt} {i : Nat} (h : pipI ρ 1 i) (hi : i < 12) : pipI (becR ρ 12) 6 i := by
  unfold pipI becR
  rw [if_pos (by omega), if_pos (by omega), if_pos (by omega), if_pos (by omega)]
  exact h
theorem wd_pip {ρ : gSt} {b t i : Nat} (hT : tunI ρ t) (hi : i < 12) (h : pipI ρ b i) : pipI (wdR ρ b t 12) b i := by
  obtain ⟨⟨u, hu, eu⟩, ho, hc, hs⟩ := h
  obtain ⟨L, hL, hL16, hLn, hLc⟩ := hT
  obtain ⟨q, hq, eq⟩ := cnt_N (f := ρ (15 + 3 * t)) (x := nI i) (L := L)
  unfold pipI wdR
  by_cases h0 : i < 12 ∧ 0 < ρ (16 + 3 * t) i
  · simp only [if_pos h0]
    refine ⟨?_, ?_, ?_, ?_⟩
    · rw [if_pos trivial, hLc i hi, eq, eu, nI_add]
      exact ⟨min 30 (u + q), Nat.min_le_left _ _, mn_N (x := 30) (by omega) (by omega)⟩
    · rw [if_neg (by omega), if_neg (by omega)]
      exact ho
    · rw [if_neg (by omega), if_neg (by omega)]
      exact hc
    · rw [if_neg (by omega), if_pos trivial]
      exact Or.inr rfl
  · simp only [if_neg h0]
    exact ⟨⟨u, hu, eu⟩, ho, hc, hs⟩
theorem tun_cg {ρ σ : gSt} {t : Nat} (h : tunI ρ t) (e : ∀ k, 14 + 3 * t ≤ k → k ≤ 16 + 3 * t → σ k = ρ k) : tunI σ t := by
  unfold tunI
  rw [e _ (by omega) (by omega), e _ (by omega) (by omega), e _ (by omega) (by omega)]
  exact h
theorem wd_out {ρ : gSt} {b t n k : Nat} (h1 : k ≠ b + 1) (h2 : k ≠ b + 4) : wdR ρ b t n k = ρ k := by
  funext j
  unfold wdR
  rw [if_neg h1, if_neg h2, ite_self]
theorem bec_out {ρ : gSt} {n k : Nat} (h : k ≤ 6 ∨ 10 < k) : becR ρ n k = ρ k := by
  funext j
  unfold becR
  rw [if_neg (by omega)]
theorem tr_out {ρ : gSt} {t n k : Nat} (h : k ≤ 6 ∨ 10 < k) : trR ρ t n k = ρ k := by
  induction n with
  | zero => exact bec_out h
  | succ n ih => exact (wd_out (by omega) (by omega)).trans ih
theorem tr_tun {ρ : gSt} {t n : Nat} (hT : tunI ρ t) (ht : t < 6) : tunI (trR ρ t n) t := tun_cg hT (fun k h1 h2 => tr_out (by omega))
theorem tr_pip {ρ : gSt} {t i n : Nat} (hT : tunI ρ t) (ht : t < 6) (h : pipI ρ 1 i) (hi : i < 12) : pipI (trR ρ t n) 6 i := by
  induction n with
  | zero => exact bec_pip h hi
  | succ n ih => exact wd_pip (tr_tun hT ht) hi ih
theorem sg_wd {ρ : gSt} {b t L : Nat} (hL16 : L ≤ 16) (hLn : ∀ k, k < L → ∃ q : Nat, q < 12 ∧ ρ (15 + 3 * t) k = nI q) (hLc : ∀ q, q < 12 → ρ (16 + 3 * t) q = cntI (ρ (15 + 3 * t)) (nI q) L) (hw : ∀ i, i < 12 → ∃ w : Nat, w ≤ 30 ∧ ρ (b + 1) i = nI w) : sgR ρ b t L = wdR ρ b t 12 := by
  have key : ∀ n, n ≤ L → sgR ρ b t n = fun k j => if j < 12 ∧ 0 < cntI (ρ (15 + 3 * t)) (nI j) n then (if k = b + 1 then mnI 30 (ρ k j + cntI (ρ (15 + 3 * t)) (nI j) n) else if k = b + 4 then 1 else ρ k j) else ρ k j := by
    intro n
    induction n with
    | zero =>
      intro _
      funext k j
      rw [if_neg (fun q => absurd (show (0 : Int32) < 0 from q.2) (by decide))]
      rfl
    | succ n ih =>
      intro hn
      obtain ⟨q, hq, e⟩ := hLn n (by omega)
      funext k j
      simp only [sgR, snR]
      rw [ih (by omega), e, show ix (nI q) = q from nI_clamp (by omega)]
      simp only [cntI_s, e, up2_e]
      by_cases hj : j = q
      · subst hj
        obtain ⟨u, hu, eu⟩ := hw j hq
        obtain ⟨v, hv, ev⟩ := cnt_N (f := ρ (15 + 3 * t)) (x := nI j) (L := n)
        have hpos : j < 12 ∧ 0 < cntI (ρ (15 + 3 * t)) (nI j) n + (if nI j = nI j then 1 else 0) := ⟨hq, by rw [if_pos rfl, ev, nI_1]; exact (nI_ltI (a := 0) (by omega) (by omega)).mpr (by omega)⟩
        rw [if_pos hpos, if_pos rfl, ev]
        by_cases h4 : k = b + 4
        · rw [if_pos ⟨h4, rfl⟩, if_neg (by omega), if_pos h4]
        · rw [if_neg (fun h => h4 h.1), if_neg h4]
          by_cases h1 : k = b + 1
          · subst h1
            rw [if_pos ⟨rfl, rfl⟩, if_pos trivial, eu, if_pos rfl]
            have e3 : mnI 30 ((if j < 12 ∧ 0 < nI v then mnI 30 (nI u + nI v) else nI u) + 1) = mnI 30 (nI u + (nI v + 1)) := by
              by_cases hv0 : v = 0
              · subst hv0
                rw [if_neg (fun h => absurd h.2 (by decide))]
                rfl
              · rw [if_pos ⟨hq, (nI_ltI (a := 0) (by omega) (by omega)).mpr (by omega)⟩, nI_add, show mnI 30 (nI (u + v)) = nI (min 30 (u + v)) from mn_N (x := 30) (by omega) (by omega), nI_1, nI_1, nI_add, show mnI 30 (nI (min 30 (u + v) + 1)) = nI (min 30 (min 30 (u + v) + 1)) from mn_N (x := 30) (by omega) (by omega), show mnI 30 (nI (u + (v + 1))) = nI (min 30 (u + (v + 1))) from mn_N (x := 30) (by omega) (by omega)]
                congr 1
                omega
            exact e3
          · rw [if_neg (fun h => h1 h.1), if_neg h1, if_neg h1, ite_self]
      · rw [if_neg (fun h => hj h.2), if_neg (fun h => hj h.2)]
        by_cases hj12 : j < 12
        · rw [if_neg (fun h : nI q = nI j => hj ((nI_eq (by omega) (by omega)).mp h).symm), Int32.add_zero]
        · rw [if_neg (fun h => hj12 h.1), if_neg (fun h => hj12 h.1)]
  rw [key L (Nat.le_refl L)]
  funext k j
  unfold wdR
  by_cases hj : j < 12
  · rw [hLc j hj]
  · rw [if_neg (fun h => hj h.1), if_neg (fun h => hj h.1)]
end
section
set_option maxHeartbeats 1000000 in
set_option maxRecDepth 100000 in
theorem c_X3_checkTune (l : Launch) (hl0 : l.stackTraces = false) (D : va_G) (cy : Nat → ClassId) (ad : Nat → Nat) (ρ : Nat → Nat → Int32) (x : Int32) : gXV l yX3_checkTune cX3_checkTune 2 none { frames := 6, cells := 1, slots := 6, locals := 90 } D cy 48 ad (cC ad cy) [.ref (ad 0), .int x] ρ (fun ρ1 => ρ1 = ρ ∧ inb x (ρ 0 5)) (fun E => E = "java/lang/IndexOutOfBoundsException" ∧ ¬ inb x (ρ 0 5)) 1 6 := by
  refine gXV_of (ls := [(0, .ref (ad 0)), (1, .int x)]) RX3 rfl (by decide +kernel) (Nat.le_of_ble_eq_true rfl) rfl ?_
  intro p e s m args below meth c A X hE hxt hr hlk
  refine g_iload_n X dX3_checkTune_0 1 rfl rfl ?_
  refine g_if_lt X 12 dX3_checkTune_1 (by decide) (fun c_1 => ?_) (fun c_1 => ?_)
  · skip
    exact g_throw X hE hl0 (names := ["java/lang/RuntimeException", "java/lang/Exception"]) (by decide +kernel) (by decide +kernel) kk_X3_67 ki_IOB kst_200 kh_IOB_71 kh_IOB_71g dX3_checkTune_12 dX3_checkTune_15 dX3_checkTune_16 dX3_checkTune_18 dX3_checkTune_21 hxt ⟨Nat.le_of_ble_eq_true rfl, Nat.le_of_ble_eq_true rfl, Nat.le_of_ble_eq_true rfl, Nat.le_of_ble_eq_true rfl⟩ hlk (⟨rfl, fun h => h.1 c_1⟩) (by omega) (by omega)
  · skip
    refine g_iload_n X dX3_checkTune_4 1 rfl rfl ?_
    refine g_aload_n X dX3_checkTune_5 0 rfl rfl ?_
    refine g_geti X 0 (by omega) 5 (by decide) ku_X3 kv_X3 kf_X3_41 rfl lC_o_tuneCount dX3_checkTune_6 ?_
    refine g_icmp_lt X 22 dX3_checkTune_9 (by decide) (fun c_2 => ?_) (fun c_2 => ?_)
    · skip
      exact g_xvret X hr hlk (by omega) (by omega) dX3_checkTune_22 (⟨rfl, c_1, c_2⟩)
    · skip
      exact g_throw X hE hl0 (names := ["java/lang/RuntimeException", "java/lang/Exception"]) (by decide +kernel) (by decide +kernel) kk_X3_67 ki_IOB kst_200 kh_IOB_71 kh_IOB_71g dX3_checkTune_12 dX3_checkTune_15 dX3_checkTune_16 dX3_checkTune_18 dX3_checkTune_21 hxt ⟨Nat.le_of_ble_eq_true rfl, Nat.le_of_ble_eq_true rfl, Nat.le_of_ble_eq_true rfl, Nat.le_of_ble_eq_true rfl⟩ hlk (⟨rfl, fun h => c_2 h.2⟩) (by omega) (by omega)

set_option maxHeartbeats 1000000 in
set_option maxRecDepth 100000 in
theorem c_X3_checkStreet (l : Launch) (hl0 : l.stackTraces = false) (D : va_G) (cy : Nat → ClassId) (ad : Nat → Nat) (ρ : Nat → Nat → Int32) (x : Int32) : gXV l yX3_checkStreet cX3_checkStreet 2 none { frames := 6, cells := 1, slots := 6, locals := 90 } D cy 48 ad (cC ad cy) [.ref (ad 0), .int x] ρ (fun ρ1 => ρ1 = ρ ∧ inb x (ρ 0 6)) (fun E => E = "java/lang/IndexOutOfBoundsException" ∧ ¬ inb x (ρ 0 6)) 1 6 := by
  refine gXV_of (ls := [(0, .ref (ad 0)), (1, .int x)]) RX3 rfl (by decide +kernel) (Nat.le_of_ble_eq_true rfl) rfl ?_
  intro p e s m args below meth c A X hE hxt hr hlk
  refine g_iload_n X dX3_checkStreet_0 1 rfl rfl ?_
  refine g_if_lt X 12 dX3_checkStreet_1 (by decide) (fun c_1 => ?_) (fun c_1 => ?_)
  · skip
    exact g_throw X hE hl0 (names := ["java/lang/RuntimeException", "java/lang/Exception"]) (by decide +kernel) (by decide +kernel) kk_X3_67 ki_IOB kst_202 kh_IOB_71 kh_IOB_71g dX3_checkStreet_12 dX3_checkStreet_15 dX3_checkStreet_16 dX3_checkStreet_18 dX3_checkStreet_21 hxt ⟨Nat.le_of_ble_eq_true rfl, Nat.le_of_ble_eq_true rfl, Nat.le_of_ble_eq_true rfl, Nat.le_of_ble_eq_true rfl⟩ hlk (⟨rfl, fun h => h.1 c_1⟩) (by omega) (by omega)
  · skip
    refine g_iload_n X dX3_checkStreet_4 1 rfl rfl ?_
    refine g_aload_n X dX3_checkStreet_5 0 rfl rfl ?_
    refine g_geti X 0 (by omega) 6 (by decide) ku_X3 kv_X3 kf_X3_83 rfl lC_o_streetCount dX3_checkStreet_6 ?_
    refine g_icmp_lt X 22 dX3_checkStreet_9 (by decide) (fun c_2 => ?_) (fun c_2 => ?_)
    · skip
      exact g_xvret X hr hlk (by omega) (by omega) dX3_checkStreet_22 (⟨rfl, c_1, c_2⟩)
    · skip
      exact g_throw X hE hl0 (names := ["java/lang/RuntimeException", "java/lang/Exception"]) (by decide +kernel) (by decide +kernel) kk_X3_67 ki_IOB kst_202 kh_IOB_71 kh_IOB_71g dX3_checkStreet_12 dX3_checkStreet_15 dX3_checkStreet_16 dX3_checkStreet_18 dX3_checkStreet_21 hxt ⟨Nat.le_of_ble_eq_true rfl, Nat.le_of_ble_eq_true rfl, Nat.le_of_ble_eq_true rfl, Nat.le_of_ble_eq_true rfl⟩ hlk (⟨rfl, fun h => c_2 h.2⟩) (by omega) (by omega)

set_option maxHeartbeats 1000000 in
set_option maxRecDepth 100000 in
theorem c_X3_checkPipe (l : Launch) (hl0 : l.stackTraces = false) (D : va_G) (cy : Nat → ClassId) (ad : Nat → Nat) (ρ : Nat → Nat → Int32) (x : Int32) : gXV l yX3_checkPipe cX3_checkPipe 1 none { frames := 6, cells := 1, slots := 6, locals := 90 } D cy 48 ad (cC ad cy) [.int x] ρ (fun ρ1 => ρ1 = ρ ∧ inb x 12) (fun E => E = "java/lang/IndexOutOfBoundsException" ∧ ¬ inb x 12) 1 6 := by
  refine gXV_of (ls := [(0, .int x)]) RX3 rfl (by decide +kernel) (Nat.le_of_ble_eq_true rfl) rfl ?_
  intro p e s m args below meth c A X hE hxt hr hlk
  refine g_iload_n X dX3_checkPipe_0 0 rfl rfl ?_
  refine g_if_lt X 10 dX3_checkPipe_1 (by decide) (fun c_1 => ?_) (fun c_1 => ?_)
  · skip
    exact g_throw X hE hl0 (names := ["java/lang/RuntimeException", "java/lang/Exception"]) (by decide +kernel) (by decide +kernel) kk_X3_67 ki_IOB kst_204 kh_IOB_71 kh_IOB_71g dX3_checkPipe_10 dX3_checkPipe_13 dX3_checkPipe_14 dX3_checkPipe_16 dX3_checkPipe_19 hxt ⟨Nat.le_of_ble_eq_true rfl, Nat.le_of_ble_eq_true rfl, Nat.le_of_ble_eq_true rfl, Nat.le_of_ble_eq_true rfl⟩ hlk (⟨rfl, fun h => h.1 c_1⟩) (by omega) (by omega)
  · skip
    refine g_iload_n X dX3_checkPipe_4 0 rfl rfl ?_
    refine g_bipush X (v := 12) dX3_checkPipe_5 (by decide) ?_
    refine g_icmp_lt X 20 dX3_checkPipe_7 (by decide) (fun c_2 => ?_) (fun c_2 => ?_)
    · skip
      exact g_xvret X hr hlk (by omega) (by omega) dX3_checkPipe_20 (⟨rfl, c_1, c_2⟩)
    · skip
      exact g_throw X hE hl0 (names := ["java/lang/RuntimeException", "java/lang/Exception"]) (by decide +kernel) (by decide +kernel) kk_X3_67 ki_IOB kst_204 kh_IOB_71 kh_IOB_71g dX3_checkPipe_10 dX3_checkPipe_13 dX3_checkPipe_14 dX3_checkPipe_16 dX3_checkPipe_19 hxt ⟨Nat.le_of_ble_eq_true rfl, Nat.le_of_ble_eq_true rfl, Nat.le_of_ble_eq_true rfl, Nat.le_of_ble_eq_true rfl⟩ hlk (⟨rfl, fun h => c_2 h.2⟩) (by omega) (by omega)

set_option maxHeartbeats 1000000 in
set_option maxRecDepth 100000 in
theorem c_X3_checkPermits (l : Launch) (hl0 : l.stackTraces = false) (D : va_G) (cy : Nat → ClassId) (ad : Nat → Nat) (ρ : Nat → Nat → Int32) (x : Int32) : gXV l yX3_checkPermits cX3_checkPermits 1 none { frames := 6, cells := 1, slots := 6, locals := 90 } D cy 48 ad (cC ad cy) [.int x] ρ (fun ρ1 => ρ1 = ρ ∧ inl x 127) (fun E => E = "java/lang/IllegalArgumentException" ∧ ¬ inl x 127) 1 6 := by
  refine gXV_of (ls := [(0, .int x)]) RX3 rfl (by decide +kernel) (Nat.le_of_ble_eq_true rfl) rfl ?_
  intro p e s m args below meth c A X hE hxt hr hlk
  refine g_iload_n X dX3_checkPermits_0 0 rfl rfl ?_
  refine g_if_lt X 10 dX3_checkPermits_1 (by decide) (fun c_1 => ?_) (fun c_1 => ?_)
  · skip
    exact g_throw X hE hl0 (names := ["java/lang/RuntimeException", "java/lang/Exception"]) (by decide +kernel) (by decide +kernel) kk_X3_75 ki_IAE kst_206 kh_IAE_79 kh_IAE_79g dX3_checkPermits_10 dX3_checkPermits_13 dX3_checkPermits_14 dX3_checkPermits_16 dX3_checkPermits_19 hxt ⟨Nat.le_of_ble_eq_true rfl, Nat.le_of_ble_eq_true rfl, Nat.le_of_ble_eq_true rfl, Nat.le_of_ble_eq_true rfl⟩ hlk (⟨rfl, fun h => h.1 c_1⟩) (by omega) (by omega)
  · skip
    refine g_iload_n X dX3_checkPermits_4 0 rfl rfl ?_
    refine g_bipush X (v := 127) dX3_checkPermits_5 (by decide) ?_
    refine g_icmp_le X 20 dX3_checkPermits_7 (by decide) (fun c_2 => ?_) (fun c_2 => ?_)
    · skip
      exact g_xvret X hr hlk (by omega) (by omega) dX3_checkPermits_20 (⟨rfl, c_1, c_2⟩)
    · skip
      exact g_throw X hE hl0 (names := ["java/lang/RuntimeException", "java/lang/Exception"]) (by decide +kernel) (by decide +kernel) kk_X3_75 ki_IAE kst_206 kh_IAE_79 kh_IAE_79g dX3_checkPermits_10 dX3_checkPermits_13 dX3_checkPermits_14 dX3_checkPermits_16 dX3_checkPermits_19 hxt ⟨Nat.le_of_ble_eq_true rfl, Nat.le_of_ble_eq_true rfl, Nat.le_of_ble_eq_true rfl, Nat.le_of_ble_eq_true rfl⟩ hlk (⟨rfl, fun h => c_2 h.2⟩) (by omega) (by omega)

set_option maxHeartbeats 1000000 in
set_option maxRecDepth 100000 in
theorem c_X3_checkNights (l : Launch) (hl0 : l.stackTraces = false) (D : va_G) (cy : Nat → ClassId) (ad : Nat → Nat) (ρ : Nat → Nat → Int32) (x : Int32) : gXV l yX3_checkNights cX3_checkNights 1 none { frames := 6, cells := 1, slots := 6, locals := 90 } D cy 48 ad (cC ad cy) [.int x] ρ (fun ρ1 => ρ1 = ρ ∧ (¬ x < 1 ∧ x ≤ 60)) (fun E => E = "java/lang/IllegalArgumentException" ∧ ¬ (¬ x < 1 ∧ x ≤ 60)) 1 6 := by
  refine gXV_of (ls := [(0, .int x)]) RX3 rfl (by decide +kernel) (Nat.le_of_ble_eq_true rfl) rfl ?_
  intro p e s m args below meth c A X hE hxt hr hlk
  refine g_iload_n X dX3_checkNights_0 0 rfl rfl ?_
  refine g_iconst X (v := 1) dX3_checkNights_1 (by decide) ?_
  refine g_icmp_lt X 11 dX3_checkNights_2 (by decide) (fun c_1 => ?_) (fun c_1 => ?_)
  · skip
    exact g_throw X hE hl0 (names := ["java/lang/RuntimeException", "java/lang/Exception"]) (by decide +kernel) (by decide +kernel) kk_X3_75 ki_IAE kst_208 kh_IAE_79 kh_IAE_79g dX3_checkNights_11 dX3_checkNights_14 dX3_checkNights_15 dX3_checkNights_17 dX3_checkNights_20 hxt ⟨Nat.le_of_ble_eq_true rfl, Nat.le_of_ble_eq_true rfl, Nat.le_of_ble_eq_true rfl, Nat.le_of_ble_eq_true rfl⟩ hlk (⟨rfl, fun h => h.1 c_1⟩) (by omega) (by omega)
  · skip
    refine g_iload_n X dX3_checkNights_5 0 rfl rfl ?_
    refine g_bipush X (v := 60) dX3_checkNights_6 (by decide) ?_
    refine g_icmp_le X 21 dX3_checkNights_8 (by decide) (fun c_2 => ?_) (fun c_2 => ?_)
    · skip
      exact g_xvret X hr hlk (by omega) (by omega) dX3_checkNights_21 (⟨rfl, c_1, c_2⟩)
    · skip
      exact g_throw X hE hl0 (names := ["java/lang/RuntimeException", "java/lang/Exception"]) (by decide +kernel) (by decide +kernel) kk_X3_75 ki_IAE kst_208 kh_IAE_79 kh_IAE_79g dX3_checkNights_11 dX3_checkNights_14 dX3_checkNights_15 dX3_checkNights_17 dX3_checkNights_20 hxt ⟨Nat.le_of_ble_eq_true rfl, Nat.le_of_ble_eq_true rfl, Nat.le_of_ble_eq_true rfl, Nat.le_of_ble_eq_true rfl⟩ hlk (⟨rfl, fun h => c_2 h.2⟩) (by omega) (by omega)

set_option maxHeartbeats 1000000 in
set_option maxRecDepth 100000 in
theorem c_X3_payNow (l : Launch) (D : va_G) (cy : Nat → ClassId) (ad : Nat → Nat) (ρ : Nat → Nat → Int32) (z t : Nat) (hs : z < 8) (ht : t < 6) (hpo : payOK ρ z t (sndC ρ 1 t (-1))) : gMI l yX3_payNow cX3_payNow 3 (some .int) { frames := 4, cells := 0, slots := 0, locals := 87 } D cy 48 ad (cC ad cy) [.ref (ad 0), .int (nI z), .int (nI t)] ρ (fun r ρ1 => r = pyN ρ z t ∧ ρ1 = ρ) 0 0 := by
  refine gMI_of (ls := [(0, .ref (ad 0)), (1, .int (nI z)), (2, .int (nI t))]) RX3 rfl (by decide +kernel) (Nat.le_of_ble_eq_true rfl) rfl ?_
  intro p e s m args below meth c A X hr hlk hnm
  refine g_aload_n X dX3_payNow_0 0 rfl rfl ?_
  refine g_getr X 0 (by omega) 3 (by decide) ku_X3 kv_X3 kf_X3_28 rfl lC_o_streets dX3_payNow_1 ?_
  refine g_iload_n X dX3_payNow_4 1 rfl rfl ?_
  refine g_aaldN X 12 z 3 (by omega) lC_streets rfl (by omega) (by decide) dX3_payNow_5 ?_
  refine g_iload_n X dX3_payNow_6 2 rfl rfl ?_
  refine g_aload_n X dX3_payNow_7 0 rfl rfl ?_
  refine g_getr X 0 (by omega) 2 (by decide) ku_X3 kv_X3 kf_X3_21 rfl lC_o_tunes dX3_payNow_8 ?_
  refine g_iload_n X dX3_payNow_11 2 rfl rfl ?_
  refine g_aaldN X 11 t 2 (by omega) lC_tunes rfl (by omega) (by decide) dX3_payNow_12 ?_
  refine g_aload_n X dX3_payNow_13 0 rfl rfl ?_
  refine g_getr X 0 (by omega) 0 (by decide) ku_X3 kv_X3 kf_X3_10 rfl lC_o_pipes dX3_payNow_14 ?_
  refine g_mcallVi X (14 + 3 * t) (c_X2_soundOf l D cy ad ρ t 1 (by omega) (Or.inl rfl)) kl_X3_156 ⟨rfl, rfl, Nat.le_of_ble_eq_true rfl, Nat.le_of_ble_eq_true rfl⟩ (by omega) (lC_T (by omega)) kv_X2 rfl rfl (Nat.le_of_ble_eq_true rfl) dX3_payNow_17 ⟨Nat.le_of_ble_eq_true rfl, Nat.le_of_ble_eq_true rfl⟩ (fun r_2 ρ_1 h_3 => ?_)
  obtain ⟨er_2, e9⟩ := h_3
  rw [e9, er_2]
  clear e9
  refine g_mcallVi X (32 + 2 * z) (c_X1_payFor l D cy ad ρ z t _ (by omega) (by omega) hpo) kl_X3_215 ⟨rfl, rfl, Nat.le_of_ble_eq_true rfl, Nat.le_of_ble_eq_true rfl⟩ (by omega) (lC_S (by omega)) kv_X1 rfl rfl (Nat.le_of_ble_eq_true rfl) dX3_payNow_20 ⟨Nat.le_of_ble_eq_true rfl, Nat.le_of_ble_eq_true rfl⟩ (fun r_5 ρ_4 h_6 => ?_)
  obtain ⟨er_5, e9⟩ := h_6
  rw [e9, er_5]
  clear e9
  exact g_iret X hr hlk (by omega) (by omega) dX3_payNow_23 (⟨rfl, rfl⟩)

set_option maxHeartbeats 1000000 in
set_option maxRecDepth 100000 in
theorem c_X3_payFine (l : Launch) (D : va_G) (cy : Nat → ClassId) (ad : Nat → Nat) (ρ : Nat → Nat → Int32)  : gMI l yX3_payFine cX3_payFine 2 (some .int) { frames := 1, cells := 0, slots := 0, locals := 21 } D cy 48 ad (cC ad cy) [.ref (ad 0)] ρ (fun r ρ1 => r = mnI 10 (ρ 0 8) ∧ ρ1 = finR ρ) 0 0 := by
  refine gMI_of (ls := [(0, .ref (ad 0))]) RX3 rfl (by decide +kernel) (Nat.le_of_ble_eq_true rfl) rfl ?_
  intro p e s m args below meth c A X hr hlk hnm
  refine g_bipush X (v := 10) dX3_payFine_0 (by decide) ?_
  refine g_aload_n X dX3_payFine_2 0 rfl rfl ?_
  refine g_geti X 0 (by omega) 8 (by decide) ku_X3 kv_X3 kf_X3_37 rfl lC_o_coins dX3_payFine_3 ?_
  refine g_mmin X km_X3_218 kt_mmin ki_math kc_mmin ⟨Nat.le_of_ble_eq_true rfl, Nat.le_of_ble_eq_true rfl, by omega, by omega⟩ dX3_payFine_6 ?_
  refine g_istore_n X [(1, .int _), (0, .ref _)] dX3_payFine_9 rfl (by decide) rfl ?_
  refine g_aload_n X dX3_payFine_10 1 rfl rfl ?_
  refine g_dup X dX3_payFine_11 rfl ?_
  refine g_geti X 0 (by omega) 8 (by decide) ku_X3 kv_X3 kf_X3_37 rfl lC_o_coins dX3_payFine_12 ?_
  rw [show ρ 0 8 = ρ 0 8 from rfl]
  refine g_iload_n X dX3_payFine_15 0 rfl rfl ?_
  refine g_isub X dX3_payFine_16 ?_
  refine g_puti X 0 (by omega) 8 (by decide) ku_X3 kv_X3 kf_X3_37 rfl tyX3 tyX3_ok nmX3 rfl (by decide +kernel) lC_o_coins dX3_payFine_17 (fun ρ_1 eρ_1 => ?_)
  refine g_aload_n X dX3_payFine_20 1 rfl rfl ?_
  refine g_dup X dX3_payFine_21 rfl ?_
  refine g_geti X 0 (by omega) 9 (by decide) ku_X3 kv_X3 kf_X3_221 rfl lC_o_fines dX3_payFine_22 ?_
  rw [show ρ_1 0 9 = ρ 0 9 by subst_vars; rw [up2_j (by decide)]]
  refine g_iload_n X dX3_payFine_25 0 rfl rfl ?_
  refine g_iadd X dX3_payFine_26 ?_
  refine g_puti X 0 (by omega) 9 (by decide) ku_X3 kv_X3 kf_X3_221 rfl tyX3 tyX3_ok nmX3 rfl (by decide +kernel) lC_o_fines dX3_payFine_27 (fun ρ_2 eρ_2 => ?_)
  refine g_iload_n X dX3_payFine_30 0 rfl rfl ?_
  exact g_iret X hr hlk (by omega) (by omega) dX3_payFine_31 (by subst_vars; exact ⟨rfl, rfl⟩)

set_option maxHeartbeats 1000000 in
set_option maxRecDepth 100000 in
theorem c_X3_passNights (l : Launch) (D : va_G) (cy : Nat → ClassId) (ad : Nat → Nat) (ρ : Nat → Nat → Int32) (b n d : Nat) (hb : isP b) (hd : ρ 0 7 = nI d) (hdn : d + n < 2 ^ 31) : gMI l yX3_passNights cX3_passNights 5 (some .int) { frames := 3, cells := 0, slots := 0, locals := 66 } D cy 48 ad (cC ad cy) [.ref (ad 0), .ref (ad b), .int (nI n)] ρ (fun r ρ1 => r = csF ρ b d n ∧ ρ1 = nsR ρ b d n) 0 0 := by
  refine gMI_of (ls := [(0, .ref (ad 0)), (1, .ref (ad b)), (2, .int (nI n))]) RX3 rfl (by decide +kernel) (Nat.le_of_ble_eq_true rfl) rfl ?_
  intro p e s m args below meth c A X hr hlk hnm
  have hb9 := isP_lt hb
  have hb6 : b ≤ 6 := by rcases hb with rfl | rfl <;> decide
  refine g_iconst X (v := 0) dX3_passNights_0 (by decide) ?_
  refine g_istore_n X [(3, .int _), (0, .ref _), (1, .ref _), (2, .int _)] dX3_passNights_1 rfl (by decide) rfl ?_
  refine g_iconst X (v := 0) dX3_passNights_2 (by decide) ?_
  refine g_istore X [(4, .int _), (3, .int _), (0, .ref _), (1, .ref _), (2, .int _)] dX3_passNights_3 (by decide) rfl ?_
  refine g_ls (ls' := [(0, .ref _), (1, .ref _), (2, .int _), (3, .int _), (4, .int _)]) [2, 3, 4, 1, 0] rfl ?_
  refine g_loop (fun _ => True) (fun i => nsR ρ b d i) (fun i => [(0, .ref (ad 0)), (1, .ref (ad b)), (2, .int (nI n)), (3, .int (csF ρ b d i)), (4, .int (nI i))]) (fun _ => 0) (fun _ => 0) n 0 trivial (by omega) rfl rfl rfl rfl (fun i h0i hi hIi ihi => ?_)
  obtain ⟨ρa, eρa⟩ : ∃ ρz, ρz = nsR ρ b d i := ⟨_, rfl⟩
  rw [← eρa]
  have hda : ρa 0 7 = nI d := by rw [eρa, nsR_out (k := 0) (by omega)]; exact hd
  have hdm : ∀ j, ρa 13 j = ρ 13 j := fun j => by rw [eρa, nsR_out (k := 13) (by omega)]
  refine g_iload X dX3_passNights_5 4 rfl ?_
  refine g_iload_n X dX3_passNights_7 2 rfl rfl ?_
  refine g_icmp_geN X i n 39 (by omega) (by omega) dX3_passNights_8 (by decide) (fun c_1 => ?_) (fun c_1 => ?_)
  · skip
    refine g_iload_n X dX3_passNights_39 3 rfl rfl ?_
    exact g_iret X hr hlk (by omega) (by omega) dX3_passNights_40 (by subst_vars; rw [show i = n by omega]; exact ⟨rfl, rfl⟩)
  · skip
    refine g_iload_n X dX3_passNights_11 3 rfl rfl ?_
    refine g_aload_n X dX3_passNights_12 1 rfl rfl ?_
    refine g_aload_n X dX3_passNights_13 0 rfl rfl ?_
    refine g_getr X 0 (by omega) 4 (by decide) ku_X3 kv_X3 kf_X3_33 rfl lC_o_damp dX3_passNights_14 ?_
    refine g_aload_n X dX3_passNights_17 0 rfl rfl ?_
    refine g_geti X 0 (by omega) 7 (by decide) ku_X3 kv_X3 kf_X3_103 rfl lC_o_day dX3_passNights_18 ?_
    rw [hda]
    refine g_iload X dX3_passNights_21 4 rfl ?_
    refine g_iadd X dX3_passNights_23 ?_
    rw [nI_add]
    refine g_mcallSi X (c_X3_weekdayOf l D cy ad ρa (d + i) (by omega)) kl_X3_106 ⟨rfl, rfl, Nat.le_of_ble_eq_true rfl, Nat.le_of_ble_eq_true rfl⟩ rfl rfl (Nat.le_of_ble_eq_true rfl) dX3_passNights_24 ⟨Nat.le_of_ble_eq_true rfl, Nat.le_of_ble_eq_true rfl⟩ (fun r_3 ρ_2 h_4 => ?_)
    obtain ⟨er_3, e9⟩ := h_4
    rw [e9, er_3]
    clear e9
    refine g_ialdN X 13 ((d + i) % 7) (by omega) lC_damp (by omega) (by decide) dX3_passNights_27 ?_
    rw [hdm]
    refine g_mcallVi X b (c_X0_passNight l D cy ad ρa b _ hb) kl_X3_224 ⟨rfl, rfl, Nat.le_of_ble_eq_true rfl, Nat.le_of_ble_eq_true rfl⟩ (by omega) (lC_P hb) kv_X0 rfl rfl (Nat.le_of_ble_eq_true rfl) dX3_passNights_28 ⟨Nat.le_of_ble_eq_true rfl, Nat.le_of_ble_eq_true rfl⟩ (fun r_6 ρ_5 h_7 => ?_)
    obtain ⟨er_6, eρ_5⟩ := h_7
    refine g_iadd X dX3_passNights_31 ?_
    refine g_istore_n X [(3, .int _), (0, .ref _), (1, .ref _), (2, .int _), (4, .int _)] dX3_passNights_32 rfl (by decide) rfl ?_
    refine g_iincN X i 4 [(4, .int _), (3, .int _), (0, .ref _), (1, .ref _), (2, .int _)] 4 dX3_passNights_33 rfl (by decide) rfl ?_
    refine g_goto X 5 dX3_passNights_36 (by decide) ?_
    refine g_ls (ls' := [(0, .ref _), (1, .ref _), (2, .int _), (3, .int _), (4, .int _)]) [2, 3, 4, 1, 0] rfl ?_
    exact g_eqv (ihi (by omega) trivial) (by subst_vars; rfl) (by subst_vars; rfl) rfl rfl

set_option maxHeartbeats 1000000 in
set_option maxRecDepth 100000 in
theorem c_X3_countNow (l : Launch) (D : va_G) (cy : Nat → ClassId) (ad : Nat → Nat) (ρ : Nat → Nat → Int32) (w d : Nat) (hw : w < 9) (hd : ρ 0 7 = nI d) (hd31 : d < 2 ^ 31) : gMI l yX3_countNow cX3_countNow 2 (some .int) { frames := 3, cells := 0, slots := 0, locals := 64 } D cy 48 ad (cC ad cy) [.ref (ad 0), .int (nI w)] ρ (fun r ρ1 => r = countF ρ w ∧ ρ1 = ρ) 0 0 := by
  refine gMI_of (ls := [(0, .ref (ad 0)), (1, .int (nI w))]) RX3 rfl (by decide +kernel) (Nat.le_of_ble_eq_true rfl) rfl ?_
  intro p e s m args below meth c A X hr hlk hnm
  refine g_iload_n X dX3_countNow_0 1 rfl rfl ?_
  rcases (show w = 0 ∨ w = 1 ∨ w = 2 ∨ w = 3 ∨ w = 4 ∨ w = 5 ∨ w = 6 ∨ w = 7 ∨ w = 8 by omega) with rfl | rfl | rfl | rfl | rfl | rfl | rfl | rfl | rfl
  · skip
    refine g_tableIn X 52 dX3_countNow_1 (by decide) (by decide) rfl (by decide) ?_
    refine g_aload_n X dX3_countNow_52 0 rfl rfl ?_
    refine g_geti X 0 (by omega) 7 (by decide) ku_X3 kv_X3 kf_X3_103 rfl lC_o_day dX3_countNow_53 ?_
    exact g_iret X hr hlk (by omega) (by omega) dX3_countNow_56 (⟨rfl, rfl⟩)
  · skip
    refine g_tableIn X 57 dX3_countNow_1 (by decide) (by decide) rfl (by decide) ?_
    refine g_aload_n X dX3_countNow_57 0 rfl rfl ?_
    refine g_geti X 0 (by omega) 7 (by decide) ku_X3 kv_X3 kf_X3_103 rfl lC_o_day dX3_countNow_58 ?_
    rw [hd]
    refine g_mcallSi X (c_X3_weekdayOf l D cy ad ρ d (by omega)) kl_X3_106 ⟨rfl, rfl, Nat.le_of_ble_eq_true rfl, Nat.le_of_ble_eq_true rfl⟩ rfl rfl (Nat.le_of_ble_eq_true rfl) dX3_countNow_61 ⟨Nat.le_of_ble_eq_true rfl, Nat.le_of_ble_eq_true rfl⟩ (fun r_2 ρ_1 h_3 => ?_)
    obtain ⟨er_2, e9⟩ := h_3
    rw [e9, er_2]
    clear e9
    exact g_iret X hr hlk (by omega) (by omega) dX3_countNow_64 (⟨by show _ = wdF ρ; unfold wdF; rw [hd, nI_clamp (by omega)], rfl⟩)
  · skip
    refine g_tableIn X 65 dX3_countNow_1 (by decide) (by decide) rfl (by decide) ?_
    refine g_aload_n X dX3_countNow_65 0 rfl rfl ?_
    refine g_geti X 0 (by omega) 8 (by decide) ku_X3 kv_X3 kf_X3_37 rfl lC_o_coins dX3_countNow_66 ?_
    exact g_iret X hr hlk (by omega) (by omega) dX3_countNow_69 (⟨rfl, rfl⟩)
  · skip
    refine g_tableIn X 70 dX3_countNow_1 (by decide) (by decide) rfl (by decide) ?_
    refine g_aload_n X dX3_countNow_70 0 rfl rfl ?_
    refine g_geti X 0 (by omega) 5 (by decide) ku_X3 kv_X3 kf_X3_41 rfl lC_o_tuneCount dX3_countNow_71 ?_
    exact g_iret X hr hlk (by omega) (by omega) dX3_countNow_74 (⟨rfl, rfl⟩)
  · skip
    refine g_tableIn X 75 dX3_countNow_1 (by decide) (by decide) rfl (by decide) ?_
    refine g_aload_n X dX3_countNow_75 0 rfl rfl ?_
    refine g_geti X 0 (by omega) 6 (by decide) ku_X3 kv_X3 kf_X3_83 rfl lC_o_streetCount dX3_countNow_76 ?_
    exact g_iret X hr hlk (by omega) (by omega) dX3_countNow_79 (⟨rfl, rfl⟩)
  · skip
    refine g_tableIn X 85 dX3_countNow_1 (by decide) (by decide) rfl (by decide) ?_
    refine g_aload_n X dX3_countNow_85 0 rfl rfl ?_
    refine g_getr X 0 (by omega) 0 (by decide) ku_X3 kv_X3 kf_X3_10 rfl lC_o_pipes dX3_countNow_86 ?_
    refine g_iload_n X dX3_countNow_89 1 rfl rfl ?_
    refine g_mcallVi X 1 (c_X0_sumUp l D cy ad ρ 1 5 (Or.inl rfl) (by omega)) kl_X3_184 ⟨rfl, rfl, Nat.le_of_ble_eq_true rfl, Nat.le_of_ble_eq_true rfl⟩ (by omega) (lC_P (Or.inl rfl)) kv_X0 rfl rfl (Nat.le_of_ble_eq_true rfl) dX3_countNow_90 ⟨Nat.le_of_ble_eq_true rfl, Nat.le_of_ble_eq_true rfl⟩ (fun r_5 ρ_4 h_6 => ?_)
    obtain ⟨er_5, e9⟩ := h_6
    rw [e9, er_5]
    clear e9
    exact g_iret X hr hlk (by omega) (by omega) dX3_countNow_93 (⟨rfl, rfl⟩)
  · skip
    refine g_tableIn X 85 dX3_countNow_1 (by decide) (by decide) rfl (by decide) ?_
    refine g_aload_n X dX3_countNow_85 0 rfl rfl ?_
    refine g_getr X 0 (by omega) 0 (by decide) ku_X3 kv_X3 kf_X3_10 rfl lC_o_pipes dX3_countNow_86 ?_
    refine g_iload_n X dX3_countNow_89 1 rfl rfl ?_
    refine g_mcallVi X 1 (c_X0_sumUp l D cy ad ρ 1 6 (Or.inl rfl) (by omega)) kl_X3_184 ⟨rfl, rfl, Nat.le_of_ble_eq_true rfl, Nat.le_of_ble_eq_true rfl⟩ (by omega) (lC_P (Or.inl rfl)) kv_X0 rfl rfl (Nat.le_of_ble_eq_true rfl) dX3_countNow_90 ⟨Nat.le_of_ble_eq_true rfl, Nat.le_of_ble_eq_true rfl⟩ (fun r_8 ρ_7 h_9 => ?_)
    obtain ⟨er_8, e9⟩ := h_9
    rw [e9, er_8]
    clear e9
    exact g_iret X hr hlk (by omega) (by omega) dX3_countNow_93 (⟨rfl, rfl⟩)
  · skip
    refine g_tableIn X 85 dX3_countNow_1 (by decide) (by decide) rfl (by decide) ?_
    refine g_aload_n X dX3_countNow_85 0 rfl rfl ?_
    refine g_getr X 0 (by omega) 0 (by decide) ku_X3 kv_X3 kf_X3_10 rfl lC_o_pipes dX3_countNow_86 ?_
    refine g_iload_n X dX3_countNow_89 1 rfl rfl ?_
    refine g_mcallVi X 1 (c_X0_sumUp l D cy ad ρ 1 7 (Or.inl rfl) (by omega)) kl_X3_184 ⟨rfl, rfl, Nat.le_of_ble_eq_true rfl, Nat.le_of_ble_eq_true rfl⟩ (by omega) (lC_P (Or.inl rfl)) kv_X0 rfl rfl (Nat.le_of_ble_eq_true rfl) dX3_countNow_90 ⟨Nat.le_of_ble_eq_true rfl, Nat.le_of_ble_eq_true rfl⟩ (fun r_11 ρ_10 h_12 => ?_)
    obtain ⟨er_11, e9⟩ := h_12
    rw [e9, er_11]
    clear e9
    exact g_iret X hr hlk (by omega) (by omega) dX3_countNow_93 (⟨rfl, rfl⟩)
  · skip
    refine g_tableIn X 80 dX3_countNow_1 (by decide) (by decide) rfl (by decide) ?_
    refine g_aload_n X dX3_countNow_80 0 rfl rfl ?_
    refine g_geti X 0 (by omega) 9 (by decide) ku_X3 kv_X3 kf_X3_221 rfl lC_o_fines dX3_countNow_81 ?_
    exact g_iret X hr hlk (by omega) (by omega) dX3_countNow_84 (⟨rfl, rfl⟩)

set_option maxHeartbeats 1000000 in
set_option maxRecDepth 100000 in
theorem c_X3_mix (l : Launch) (D : va_G) (cy : Nat → ClassId) (ad : Nat → Nat) (ρ : Nat → Nat → Int32) (u : Int64) (x : Int32) : gML l yX3_mix cX3_mix 3 (some .long) { frames := 0, cells := 0, slots := 0, locals := 0 } D cy 48 ad (cC ad cy) [.long u, .int x] ρ (fun r ρ1 => r = mixF u x ∧ ρ1 = ρ) 0 0 := by
  refine gML_of (ls := [(0, .long u), (2, .int x)]) RX3 rfl (by decide +kernel) (Nat.le_of_ble_eq_true rfl) rfl ?_
  intro p e s m args below meth c A X hr hlk hnm
  refine g_lload_n X dX3_mix_0 0 rfl rfl ?_
  refine g_ldc2 X kL_X3_227 dX3_mix_1 ?_
  refine g_lmul X dX3_mix_4 ?_
  refine g_iload_n X dX3_mix_5 1 rfl rfl ?_
  refine g_i2l X dX3_mix_6 ?_
  refine g_ladd X dX3_mix_7 ?_
  exact g_lret X hr hlk (by omega) (by omega) dX3_mix_8 (⟨rfl, rfl⟩)

set_option maxHeartbeats 1000000 in
set_option maxRecDepth 100000 in
theorem c_X3_mixTune (l : Launch) (D : va_G) (cy : Nat → ClassId) (ad : Nat → Nat) (ρ : Nat → Nat → Int32) (t L : Nat) (u : Int64) (ht : t < 6) (hL : ρ (14 + 3 * t) 2 = nI L) (hL16 : L ≤ 16) : gML l yX3_mixTune cX3_mixTune 7 (some .long) { frames := 4, cells := 0, slots := 0, locals := 87 } D cy 48 ad (cC ad cy) [.ref (ad 0), .long u, .ref (ad (14 + 3 * t))] ρ (fun r ρ1 => r = mtF ρ t u ∧ ρ1 = ρ) 0 0 := by
  refine gML_of (ls := [(0, .ref (ad 0)), (1, .long u), (3, .ref (ad (14 + 3 * t)))]) RX3 rfl (by decide +kernel) (Nat.le_of_ble_eq_true rfl) rfl ?_
  intro p e s m args below meth c A X hr hlk hnm
  refine g_lload_n X dX3_mixTune_0 1 rfl rfl ?_
  refine g_aload_n X dX3_mixTune_1 2 rfl rfl ?_
  refine g_geti X (14 + 3 * t) (by omega) 2 (by decide) ku_X2 kv_X2 kf_X3_58 rfl (lC_f_length ht) dX3_mixTune_2 ?_
  rw [hL]
  refine g_mcallSl X (c_X3_mix l D cy ad ρ _ _) kl_X3_189 ⟨rfl, rfl, Nat.le_of_ble_eq_true rfl, Nat.le_of_ble_eq_true rfl⟩ rfl rfl (Nat.le_of_ble_eq_true rfl) dX3_mixTune_5 ⟨Nat.le_of_ble_eq_true rfl, Nat.le_of_ble_eq_true rfl⟩ (fun r_2 ρ_1 h_3 => ?_)
  obtain ⟨er_2, e9⟩ := h_3
  rw [e9, er_2]
  clear e9
  refine g_lstore X [(4, .long _), (0, .ref _), (1, .long _), (3, .ref _)] dX3_mixTune_8 (by decide) rfl ?_
  refine g_iconst X (v := 0) dX3_mixTune_10 (by decide) ?_
  refine g_istore X [(6, .int _), (4, .long _), (0, .ref _), (1, .long _), (3, .ref _)] dX3_mixTune_11 (by decide) rfl ?_
  refine g_ls (ls' := [(0, .ref _), (1, .long _), (3, .ref _), (4, .long _), (6, .int _)]) [2, 3, 4, 1, 0] rfl ?_
  refine g_loop (fun _ => True) (fun _ => ρ) (fun i => [(0, .ref (ad 0)), (1, .long u), (3, .ref (ad (14 + 3 * t))), (4, .long (mxs (fun k => ρ (15 + 3 * t) k) i (mixF u (nI L)))), (6, .int (nI i))]) (fun _ => (0 + 0)) (fun _ => (0 + 0)) L 0 trivial (by omega) rfl rfl rfl rfl (fun i h0i hi hIi ihi => ?_)
  refine g_iload X dX3_mixTune_13 4 rfl ?_
  refine g_aload_n X dX3_mixTune_15 2 rfl rfl ?_
  refine g_geti X (14 + 3 * t) (by omega) 2 (by decide) ku_X2 kv_X2 kf_X3_58 rfl (lC_f_length ht) dX3_mixTune_16 ?_
  rw [hL]
  refine g_icmp_geN X i L 49 (by omega) (by omega) dX3_mixTune_19 (by decide) (fun c_4 => ?_) (fun c_4 => ?_)
  · skip
    refine g_lload X dX3_mixTune_49 3 rfl ?_
    refine g_aload_n X dX3_mixTune_51 2 rfl rfl ?_
    refine g_aload_n X dX3_mixTune_52 0 rfl rfl ?_
    refine g_getr X 0 (by omega) 0 (by decide) ku_X3 kv_X3 kf_X3_10 rfl lC_o_pipes dX3_mixTune_53 ?_
    refine g_mcallVi X (14 + 3 * t) (c_X2_soundOf l D cy ad ρ t 1 ht (Or.inl rfl)) kl_X3_156 ⟨rfl, rfl, Nat.le_of_ble_eq_true rfl, Nat.le_of_ble_eq_true rfl⟩ (by omega) (lC_T ht) kv_X2 rfl rfl (Nat.le_of_ble_eq_true rfl) dX3_mixTune_56 ⟨Nat.le_of_ble_eq_true rfl, Nat.le_of_ble_eq_true rfl⟩ (fun r_6 ρ_5 h_7 => ?_)
    obtain ⟨er_6, e9⟩ := h_7
    rw [e9, er_6]
    clear e9
    refine g_mcallSl X (c_X3_mix l D cy ad ρ _ _) kl_X3_189 ⟨rfl, rfl, Nat.le_of_ble_eq_true rfl, Nat.le_of_ble_eq_true rfl⟩ rfl rfl (Nat.le_of_ble_eq_true rfl) dX3_mixTune_59 ⟨Nat.le_of_ble_eq_true rfl, Nat.le_of_ble_eq_true rfl⟩ (fun r_9 ρ_8 h_10 => ?_)
    obtain ⟨er_9, e9⟩ := h_10
    rw [e9, er_9]
    clear e9
    exact g_lret X hr hlk (by omega) (by omega) dX3_mixTune_62 (by refine ⟨?_, rfl⟩; unfold mtF; rw [hL, nI_clamp (by omega), show i = L by omega])
  · skip
    refine g_iload X dX3_mixTune_22 4 rfl ?_
    refine g_bipush X (v := 16) dX3_mixTune_24 (by decide) ?_
    refine g_icmp_geN X i 16 49 (by omega) (by omega) dX3_mixTune_26 (by decide) (fun c_11 => ?_) (fun c_11 => ?_)
    · exfalso; omega
    · skip
      refine g_lload X dX3_mixTune_29 3 rfl ?_
      refine g_aload_n X dX3_mixTune_31 2 rfl rfl ?_
      refine g_getr X (14 + 3 * t) (by omega) 0 (by decide) ku_X2 kv_X2 kf_X3_72 rfl (lC_f_notes ht) dX3_mixTune_32 ?_
      refine g_iload X dX3_mixTune_35 4 rfl ?_
      refine g_ialdN X (15 + 3 * t) i (by omega) (lC_notes ht) (by omega) (by decide) dX3_mixTune_37 ?_
      refine g_mcallSl X (c_X3_mix l D cy ad ρ _ _) kl_X3_189 ⟨rfl, rfl, Nat.le_of_ble_eq_true rfl, Nat.le_of_ble_eq_true rfl⟩ rfl rfl (Nat.le_of_ble_eq_true rfl) dX3_mixTune_38 ⟨Nat.le_of_ble_eq_true rfl, Nat.le_of_ble_eq_true rfl⟩ (fun r_13 ρ_12 h_14 => ?_)
      obtain ⟨er_13, e9⟩ := h_14
      rw [e9, er_13]
      clear e9
      refine g_lstore X [(4, .long _), (0, .ref _), (1, .long _), (3, .ref _), (6, .int _)] dX3_mixTune_41 (by decide) rfl ?_
      refine g_iincN X i 6 [(6, .int _), (4, .long _), (0, .ref _), (1, .long _), (3, .ref _)] 4 dX3_mixTune_43 rfl (by decide) rfl ?_
      refine g_goto X 13 dX3_mixTune_46 (by decide) ?_
      refine g_ls (ls' := [(0, .ref _), (1, .long _), (3, .ref _), (4, .long _), (6, .int _)]) [2, 3, 4, 1, 0] rfl ?_
      exact g_eqv (ihi (by omega) trivial) (rfl) (rfl) rfl rfl

set_option maxHeartbeats 1000000 in
set_option maxRecDepth 100000 in
theorem c_X3_mixStreet (l : Launch) (D : va_G) (cy : Nat → ClassId) (ad : Nat → Nat) (ρ : Nat → Nat → Int32) (z T d : Nat) (u : Int64) (hs : z < 8) (hT : ρ 0 5 = nI T) (hT6 : T ≤ 6) (hd : ρ 0 7 = nI d) (hd31 : d < 2 ^ 31) (hpo : ∀ t, t < 6 → payOK ρ z t (sndC ρ 1 t (-1))) : gML l yX3_mixStreet cX3_mixStreet 7 (some .long) { frames := 5, cells := 0, slots := 0, locals := 109 } D cy 48 ad (cC ad cy) [.ref (ad 0), .long u, .int (nI z)] ρ (fun r ρ1 => r = msF ρ z u ∧ ρ1 = ρ) 0 0 := by
  refine gML_of (ls := [(0, .ref (ad 0)), (1, .long u), (3, .int (nI z))]) RX3 rfl (by decide +kernel) (Nat.le_of_ble_eq_true rfl) rfl ?_
  intro p e s m args below meth c A X hr hlk hnm
  have hwd : wdF ρ = nI (d % 7) := by unfold wdF; rw [hd, nI_clamp (by omega)]
  refine g_lload_n X dX3_mixStreet_0 1 rfl rfl ?_
  refine g_lstore X [(4, .long _), (0, .ref _), (1, .long _), (3, .int _)] dX3_mixStreet_1 (by decide) rfl ?_
  refine g_iconst X (v := 0) dX3_mixStreet_3 (by decide) ?_
  refine g_istore X [(6, .int _), (4, .long _), (0, .ref _), (1, .long _), (3, .int _)] dX3_mixStreet_4 (by decide) rfl ?_
  refine g_ls (ls' := [(0, .ref _), (1, .long _), (3, .int _), (4, .long _), (6, .int _)]) [2, 3, 4, 1, 0] rfl ?_
  refine g_loop (fun _ => True) (fun _ => ρ) (fun i => [(0, .ref (ad 0)), (1, .long u), (3, .int (nI z)), (4, .long (mxs (fun w => toldF ρ z w (wdF ρ)) i u)), (6, .int (nI i))]) (fun _ => 0) (fun _ => 0) 5 0 trivial (by omega) rfl rfl rfl rfl (fun i h0i hi hIi ihi => ?_)
  refine g_iload X dX3_mixStreet_6 4 rfl ?_
  refine g_iconst X (v := 5) dX3_mixStreet_8 (by decide) ?_
  refine g_icmp_geN X i 5 43 (by omega) (by omega) dX3_mixStreet_9 (by decide) (fun c_1 => ?_) (fun c_1 => ?_)
  · skip
    refine g_iconst X (v := 0) dX3_mixStreet_43 (by decide) ?_
    refine g_istore X [(6, .int _), (0, .ref _), (1, .long _), (3, .int _), (4, .long _)] dX3_mixStreet_44 (by decide) rfl ?_
    have h5 : i = 5 := by omega
    subst h5
    refine g_ls (ls' := [(0, .ref _), (1, .long _), (3, .int _), (4, .long _), (6, .int _)]) [1, 2, 3, 4, 0] rfl ?_
    refine g_loop (fun _ => True) (fun _ => ρ) (fun j => [(0, .ref (ad 0)), (1, .long u), (3, .int (nI z)), (4, .long (mxs (fun t => pyN ρ z t) j (mxs (fun w => toldF ρ z w (wdF ρ)) 5 u))), (6, .int (nI j))]) (fun _ => (0)) (fun _ => (0)) T 0 trivial (by omega) rfl rfl rfl rfl (fun j h0j hj hIj ihj => ?_)
    refine g_iload X dX3_mixStreet_46 4 rfl ?_
    refine g_aload_n X dX3_mixStreet_48 0 rfl rfl ?_
    refine g_geti X 0 (by omega) 5 (by decide) ku_X3 kv_X3 kf_X3_41 rfl lC_o_tuneCount dX3_mixStreet_49 ?_
    rw [show ρ 0 5 = nI T from hT]
    refine g_icmp_geN X j T 75 (by omega) (by omega) dX3_mixStreet_52 (by decide) (fun c_2 => ?_) (fun c_2 => ?_)
    · skip
      refine g_lload X dX3_mixStreet_75 3 rfl ?_
      exact g_lret X hr hlk (by omega) (by omega) dX3_mixStreet_77 (by refine ⟨?_, rfl⟩; unfold msF; rw [hT, nI_clamp (by omega), show j = T by omega])
    · skip
      refine g_lload X dX3_mixStreet_55 3 rfl ?_
      refine g_aload_n X dX3_mixStreet_57 0 rfl rfl ?_
      refine g_iload_n X dX3_mixStreet_58 2 rfl rfl ?_
      refine g_iload X dX3_mixStreet_59 4 rfl ?_
      refine g_mcallVi X 0 (c_X3_payNow l D cy ad ρ z j (by omega) (by omega) (hpo j (by omega))) kl_X3_117 ⟨rfl, rfl, Nat.le_of_ble_eq_true rfl, Nat.le_of_ble_eq_true rfl⟩ (by omega) lC_O kv_X3 rfl rfl (Nat.le_of_ble_eq_true rfl) dX3_mixStreet_61 ⟨Nat.le_of_ble_eq_true rfl, Nat.le_of_ble_eq_true rfl⟩ (fun r_4 ρ_3 h_5 => ?_)
      obtain ⟨er_4, e9⟩ := h_5
      rw [e9, er_4]
      clear e9
      refine g_mcallSl X (c_X3_mix l D cy ad ρ _ _) kl_X3_189 ⟨rfl, rfl, Nat.le_of_ble_eq_true rfl, Nat.le_of_ble_eq_true rfl⟩ rfl rfl (Nat.le_of_ble_eq_true rfl) dX3_mixStreet_64 ⟨Nat.le_of_ble_eq_true rfl, Nat.le_of_ble_eq_true rfl⟩ (fun r_7 ρ_6 h_8 => ?_)
      obtain ⟨er_7, e9⟩ := h_8
      rw [e9, er_7]
      clear e9
      refine g_lstore X [(4, .long _), (0, .ref _), (1, .long _), (3, .int _), (6, .int _)] dX3_mixStreet_67 (by decide) rfl ?_
      refine g_iincN X j 6 [(6, .int _), (4, .long _), (0, .ref _), (1, .long _), (3, .int _)] 4 dX3_mixStreet_69 rfl (by decide) rfl ?_
      refine g_goto X 46 dX3_mixStreet_72 (by decide) ?_
      refine g_ls (ls' := [(0, .ref _), (1, .long _), (3, .int _), (4, .long _), (6, .int _)]) [2, 3, 4, 1, 0] rfl ?_
      exact g_eqv (ihj (by omega) trivial) (rfl) (rfl) rfl rfl
  · skip
    refine g_lload X dX3_mixStreet_12 3 rfl ?_
    refine g_aload_n X dX3_mixStreet_14 0 rfl rfl ?_
    refine g_getr X 0 (by omega) 3 (by decide) ku_X3 kv_X3 kf_X3_28 rfl lC_o_streets dX3_mixStreet_15 ?_
    refine g_iload_n X dX3_mixStreet_18 2 rfl rfl ?_
    refine g_aaldN X 12 z 3 (by omega) lC_streets rfl (by omega) (by decide) dX3_mixStreet_19 ?_
    refine g_iload X dX3_mixStreet_20 4 rfl ?_
    refine g_aload_n X dX3_mixStreet_22 0 rfl rfl ?_
    refine g_geti X 0 (by omega) 7 (by decide) ku_X3 kv_X3 kf_X3_103 rfl lC_o_day dX3_mixStreet_23 ?_
    rw [show ρ 0 7 = nI d from hd]
    refine g_mcallSi X (c_X3_weekdayOf l D cy ad ρ d (by omega)) kl_X3_106 ⟨rfl, rfl, Nat.le_of_ble_eq_true rfl, Nat.le_of_ble_eq_true rfl⟩ rfl rfl (Nat.le_of_ble_eq_true rfl) dX3_mixStreet_26 ⟨Nat.le_of_ble_eq_true rfl, Nat.le_of_ble_eq_true rfl⟩ (fun r_10 ρ_9 h_11 => ?_)
    obtain ⟨er_10, e9⟩ := h_11
    rw [e9, er_10]
    clear e9
    refine g_mcallVi X (32 + 2 * z) (c_X1_tell l D cy ad ρ z i _ (by omega) (by omega)) kl_X3_160 ⟨rfl, rfl, Nat.le_of_ble_eq_true rfl, Nat.le_of_ble_eq_true rfl⟩ (by omega) (lC_S (by omega)) kv_X1 rfl rfl (Nat.le_of_ble_eq_true rfl) dX3_mixStreet_29 ⟨Nat.le_of_ble_eq_true rfl, Nat.le_of_ble_eq_true rfl⟩ (fun r_13 ρ_12 h_14 => ?_)
    obtain ⟨er_13, e9⟩ := h_14
    rw [e9, er_13]
    clear e9
    refine g_mcallSl X (c_X3_mix l D cy ad ρ _ _) kl_X3_189 ⟨rfl, rfl, Nat.le_of_ble_eq_true rfl, Nat.le_of_ble_eq_true rfl⟩ rfl rfl (Nat.le_of_ble_eq_true rfl) dX3_mixStreet_32 ⟨Nat.le_of_ble_eq_true rfl, Nat.le_of_ble_eq_true rfl⟩ (fun r_16 ρ_15 h_17 => ?_)
    obtain ⟨er_16, e9⟩ := h_17
    rw [e9, er_16]
    clear e9
    refine g_lstore X [(4, .long _), (0, .ref _), (1, .long _), (3, .int _), (6, .int _)] dX3_mixStreet_35 (by decide) rfl ?_
    refine g_iincN X i 6 [(6, .int _), (4, .long _), (0, .ref _), (1, .long _), (3, .int _)] 4 dX3_mixStreet_37 rfl (by decide) rfl ?_
    refine g_goto X 6 dX3_mixStreet_40 (by decide) ?_
    refine g_ls (ls' := [(0, .ref _), (1, .long _), (3, .int _), (4, .long _), (6, .int _)]) [2, 3, 4, 1, 0] rfl ?_
    exact g_eqv (ihi (by omega) trivial) (by rw [← hwd]; rfl) (rfl) rfl rfl
end
section
set_option maxHeartbeats 1000000 in
set_option maxRecDepth 100000 in
theorem c_X3_barrel (l : Launch) (hl0 : l.stackTraces = false) (D : va_G) (cy : Nat → ClassId) (ad : Nat → Nat) (ρ : Nat → Nat → Int32) (N T S d : Nat) (hI : Inv ρ N T S d) : gXI l yX3_barrel cX3_barrel 1 (some .int) { frames := 6, cells := 3, slots := 18, locals := 90 } D cy 48 ad (cC ad cy) [.ref (ad 0)] ρ (fun r ρ1 => barF ρ = (0, r, ρ1)) (xq1 "java/lang/IllegalStateException" (barF ρ).1) 3 18 := by
  refine gXI_of (ls := [(0, .ref (ad 0))]) RX3 rfl (by decide +kernel) (Nat.le_of_ble_eq_true rfl) rfl ?_
  intro p e s m args below meth c A X hE hxt hr hlk
  obtain ⟨hT, hT6, hS, hS8, hd, hdN, hN, hTu, hSt, hPi, hZ, hHd⟩ := id hI
  have hwd : wdF ρ = nI (d % 7) := by unfold wdF; rw [hd, nI_clamp (by omega)]
  refine g_aload_n X dX3_barrel_0 0 rfl rfl ?_
  refine g_geti X 0 (by omega) 5 (by decide) ku_X3 kv_X3 kf_X3_41 rfl lC_o_tuneCount dX3_barrel_1 ?_
  rw [show ρ 0 5 = nI T from hT]
  refine g_bipush X (v := 6) dX3_barrel_4 (by decide) ?_
  refine g_icmp_ltN X T 6 19 (by omega) (by omega) dX3_barrel_6 (by decide) (fun c_1 => ?_) (fun c_1 => ?_)
  · skip
    refine g_aload_n X dX3_barrel_19 0 rfl rfl ?_
    refine g_dup X dX3_barrel_20 rfl ?_
    refine g_geti X 0 (by omega) 5 (by decide) ku_X3 kv_X3 kf_X3_41 rfl lC_o_tuneCount dX3_barrel_21 ?_
    rw [show ρ 0 5 = nI T from hT]
    refine g_dup_x1 X dX3_barrel_24 rfl rfl ?_
    refine g_iconst X (v := 1) dX3_barrel_25 (by decide) ?_
    refine g_iadd X dX3_barrel_26 ?_
    refine g_puti X 0 (by omega) 5 (by decide) ku_X3 kv_X3 kf_X3_41 rfl tyX3 tyX3_ok nmX3 rfl (by decide +kernel) lC_o_tuneCount dX3_barrel_27 (fun ρ_2 eρ_2 => ?_)
    exact g_xiret X hr hlk (by omega) (by omega) dX3_barrel_30 (by subst_vars; unfold barF; rw [if_neg (by rw [hT]; exact nI_ne (a := T) (b := 6) (by omega) (by omega) (by omega)), hT])
  · skip
    exact g_throw X hE hl0 (names := ["java/lang/RuntimeException", "java/lang/Exception"]) (by decide +kernel) (by decide +kernel) kk_X3_44 ki_ISE kst_46 kh_ISE_48 kh_ISE_48g dX3_barrel_9 dX3_barrel_12 dX3_barrel_13 dX3_barrel_15 dX3_barrel_18 hxt ⟨Nat.le_of_ble_eq_true rfl, Nat.le_of_ble_eq_true rfl, Nat.le_of_ble_eq_true rfl, Nat.le_of_ble_eq_true rfl⟩ hlk (⟨rfl, by unfold barF; rw [if_pos (by rw [hT, show T = 6 by omega]; rfl)]⟩) (by omega) (by omega)

set_option maxHeartbeats 1000000 in
set_option maxRecDepth 100000 in
theorem c_X3_pin (l : Launch) (hl0 : l.stackTraces = false) (D : va_G) (cy : Nat → ClassId) (ad : Nat → Nat) (ρ : Nat → Nat → Int32) (N T S d : Nat) (hI : Inv ρ N T S d) (x y : Int32) : gXI l yX3_pin cX3_pin 3 (some .int) { frames := 7, cells := 3, slots := 18, locals := 111 } D cy 48 ad (cC ad cy) [.ref (ad 0), .int x, .int y] ρ (fun r ρ1 => pinF ρ x y = (0, r, ρ1)) (xq2 "java/lang/IndexOutOfBoundsException" "java/lang/IllegalStateException" (pinF ρ x y).1) 3 18 := by
  refine gXI_of (ls := [(0, .ref (ad 0)), (1, .int x), (2, .int y)]) RX3 rfl (by decide +kernel) (Nat.le_of_ble_eq_true rfl) rfl ?_
  intro p e s m args below meth c A X hE hxt hr hlk
  obtain ⟨hT, hT6, hS, hS8, hd, hdN, hN, hTu, hSt, hPi, hZ, hHd⟩ := id hI
  have hwd : wdF ρ = nI (d % 7) := by unfold wdF; rw [hd, nI_clamp (by omega)]
  refine g_aload_n X dX3_pin_0 0 rfl rfl ?_
  refine g_iload_n X dX3_pin_1 1 rfl rfl ?_
  refine g_xcallVv X hE 0 (c_X3_checkTune l hl0 D cy ad ρ _) kl_X3_51 ⟨rfl, rfl, Nat.le_of_ble_eq_true rfl, Nat.le_of_ble_eq_true rfl⟩ (by omega) lC_O kv_X3 rfl rfl (Nat.le_of_ble_eq_true rfl) dX3_pin_2 ⟨Nat.le_of_ble_eq_true rfl, Nat.le_of_ble_eq_true rfl⟩ (g_out hxt hlk (fun E h => Or.inl ⟨h.1, by unfold pinF; rw [if_neg h.2]⟩) (by omega) (by omega)) (fun ρ_1 h_3 => ?_)
  obtain ⟨e9, ib9⟩ := h_3
  rw [e9]
  obtain ⟨t, ht, rfl⟩ := inb_N hT (by omega) ib9
  have ibt := ib9
  have ext : ix (nI t) = t := nI_clamp (by omega)
  refine g_iload_n X dX3_pin_5 2 rfl rfl ?_
  refine g_xcallSv X hE (c_X3_checkPipe l hl0 D cy ad ρ _) kl_X3_55 ⟨rfl, rfl, Nat.le_of_ble_eq_true rfl, Nat.le_of_ble_eq_true rfl⟩ rfl rfl (Nat.le_of_ble_eq_true rfl) dX3_pin_6 ⟨Nat.le_of_ble_eq_true rfl, Nat.le_of_ble_eq_true rfl⟩ (g_out hxt hlk (fun E h => Or.inl ⟨h.1, by unfold pinF; rw [if_pos ibt, if_neg h.2]⟩) (by omega) (by omega)) (fun ρ_4 h_6 => ?_)
  obtain ⟨e9, ib9⟩ := h_6
  rw [e9]
  obtain ⟨q, hq, rfl⟩ := inb_N (T := 12) rfl (by omega) ib9
  have ibq := ib9
  have exq : ix (nI q) = q := nI_clamp (by omega)
  obtain ⟨L, hL, hL16, hLn, hLc⟩ := hTu t (by omega)
  refine g_aload_n X dX3_pin_9 0 rfl rfl ?_
  refine g_getr X 0 (by omega) 2 (by decide) ku_X3 kv_X3 kf_X3_21 rfl lC_o_tunes dX3_pin_10 ?_
  refine g_iload_n X dX3_pin_13 1 rfl rfl ?_
  refine g_aaldN X 11 t 2 (by omega) lC_tunes rfl (by omega) (by decide) dX3_pin_14 ?_
  refine g_geti X (14 + 3 * t) (by omega) 2 (by decide) ku_X2 kv_X2 kf_X3_58 rfl (lC_f_length (by omega)) dX3_pin_15 ?_
  rw [hL]
  refine g_bipush X (v := 16) dX3_pin_18 (by decide) ?_
  refine g_icmp_ltN X L 16 33 (by omega) (by omega) dX3_pin_20 (by decide) (fun c_7 => ?_) (fun c_7 => ?_)
  · skip
    refine g_aload_n X dX3_pin_33 0 rfl rfl ?_
    refine g_getr X 0 (by omega) 2 (by decide) ku_X3 kv_X3 kf_X3_21 rfl lC_o_tunes dX3_pin_34 ?_
    refine g_iload_n X dX3_pin_37 1 rfl rfl ?_
    refine g_aaldN X 11 t 2 (by omega) lC_tunes rfl (by omega) (by decide) dX3_pin_38 ?_
    refine g_iload_n X dX3_pin_39 2 rfl rfl ?_
    refine g_mcallVi X (14 + 3 * t) (c_X2_append l D cy ad ρ t L q (by omega) hL (by omega) (by omega)) kl_X3_63 ⟨rfl, rfl, Nat.le_of_ble_eq_true rfl, Nat.le_of_ble_eq_true rfl⟩ (by omega) (lC_T (by omega)) kv_X2 rfl rfl (Nat.le_of_ble_eq_true rfl) dX3_pin_40 ⟨Nat.le_of_ble_eq_true rfl, Nat.le_of_ble_eq_true rfl⟩ (fun r_9 ρ_8 h_10 => ?_)
    obtain ⟨er_9, eρ_8⟩ := h_10
    exact g_xiret X hr hlk (by omega) (by omega) dX3_pin_43 (by subst_vars; unfold pinF; rw [if_pos ibt, if_pos ibq, if_neg (by rw [ext, hL]; exact nI_ne (a := L) (b := 16) (by omega) (by omega) (by omega)), ext, exq, hL, show ix (nI L) = L from nI_clamp (by omega), nI_1])
  · skip
    exact g_throw X hE hl0 (names := ["java/lang/RuntimeException", "java/lang/Exception"]) (by decide +kernel) (by decide +kernel) kk_X3_44 ki_ISE kst_61 kh_ISE_48 kh_ISE_48g dX3_pin_23 dX3_pin_26 dX3_pin_27 dX3_pin_29 dX3_pin_32 hxt ⟨Nat.le_of_ble_eq_true rfl, Nat.le_of_ble_eq_true rfl, Nat.le_of_ble_eq_true rfl, Nat.le_of_ble_eq_true rfl⟩ hlk (Or.inr ⟨rfl, by unfold pinF; rw [if_pos ibt, if_pos ibq, if_pos (by rw [ext, hL, show L = 16 by omega]; rfl)]⟩) (by omega) (by omega)

set_option maxHeartbeats 1000000 in
set_option maxRecDepth 100000 in
theorem c_X3_note (l : Launch) (hl0 : l.stackTraces = false) (D : va_G) (cy : Nat → ClassId) (ad : Nat → Nat) (ρ : Nat → Nat → Int32) (N T S d : Nat) (hI : Inv ρ N T S d) (x y : Int32) : gXI l yX3_note cX3_note 3 (some .int) { frames := 7, cells := 3, slots := 18, locals := 111 } D cy 48 ad (cC ad cy) [.ref (ad 0), .int x, .int y] ρ (fun r ρ1 => notF ρ x y = (0, r, ρ1)) (xq1 "java/lang/IndexOutOfBoundsException" (notF ρ x y).1) 3 18 := by
  refine gXI_of (ls := [(0, .ref (ad 0)), (1, .int x), (2, .int y)]) RX3 rfl (by decide +kernel) (Nat.le_of_ble_eq_true rfl) rfl ?_
  intro p e s m args below meth c A X hE hxt hr hlk
  obtain ⟨hT, hT6, hS, hS8, hd, hdN, hN, hTu, hSt, hPi, hZ, hHd⟩ := id hI
  have hwd : wdF ρ = nI (d % 7) := by unfold wdF; rw [hd, nI_clamp (by omega)]
  refine g_aload_n X dX3_note_0 0 rfl rfl ?_
  refine g_iload_n X dX3_note_1 1 rfl rfl ?_
  refine g_xcallVv X hE 0 (c_X3_checkTune l hl0 D cy ad ρ _) kl_X3_51 ⟨rfl, rfl, Nat.le_of_ble_eq_true rfl, Nat.le_of_ble_eq_true rfl⟩ (by omega) lC_O kv_X3 rfl rfl (Nat.le_of_ble_eq_true rfl) dX3_note_2 ⟨Nat.le_of_ble_eq_true rfl, Nat.le_of_ble_eq_true rfl⟩ (g_out hxt hlk (fun E h => ⟨h.1, by unfold notF; rw [if_neg h.2]⟩) (by omega) (by omega)) (fun ρ_1 h_3 => ?_)
  obtain ⟨e9, ib9⟩ := h_3
  rw [e9]
  obtain ⟨t, ht, rfl⟩ := inb_N hT (by omega) ib9
  have ibt := ib9
  have ext : ix (nI t) = t := nI_clamp (by omega)
  obtain ⟨L, hL, hL16, hLn, hLc⟩ := hTu t (by omega)
  refine g_iload_n X dX3_note_5 2 rfl rfl ?_
  refine g_if_lt X 22 dX3_note_6 (by decide) (fun c_4 => ?_) (fun c_4 => ?_)
  · skip
    have cA := c_4
    exact g_throw X hE hl0 (names := ["java/lang/RuntimeException", "java/lang/Exception"]) (by decide +kernel) (by decide +kernel) kk_X3_67 ki_IOB kst_69 kh_IOB_71 kh_IOB_71g dX3_note_22 dX3_note_25 dX3_note_26 dX3_note_28 dX3_note_31 hxt ⟨Nat.le_of_ble_eq_true rfl, Nat.le_of_ble_eq_true rfl, Nat.le_of_ble_eq_true rfl, Nat.le_of_ble_eq_true rfl⟩ hlk (⟨rfl, by unfold notF; rw [if_pos ibt, if_neg (fun q => q.1 cA)]⟩) (by omega) (by omega)
  · skip
    have cA := c_4
    refine g_iload_n X dX3_note_9 2 rfl rfl ?_
    refine g_aload_n X dX3_note_10 0 rfl rfl ?_
    refine g_getr X 0 (by omega) 2 (by decide) ku_X3 kv_X3 kf_X3_21 rfl lC_o_tunes dX3_note_11 ?_
    refine g_iload_n X dX3_note_14 1 rfl rfl ?_
    refine g_aaldN X 11 t 2 (by omega) lC_tunes rfl (by omega) (by decide) dX3_note_15 ?_
    refine g_geti X (14 + 3 * t) (by omega) 2 (by decide) ku_X2 kv_X2 kf_X3_58 rfl (lC_f_length (by omega)) dX3_note_16 ?_
    refine g_icmp_lt X 32 dX3_note_19 (by decide) (fun c_5 => ?_) (fun c_5 => ?_)
    · skip
      have ib2 : inb y (ρ (14 + 3 * t) 2) := ⟨cA, c_5⟩
      obtain ⟨k, hk, rfl⟩ := inb_N hL (by omega) ib2
      have exk : ix (nI k) = k := nI_clamp (by omega)
      refine g_aload_n X dX3_note_32 0 rfl rfl ?_
      refine g_getr X 0 (by omega) 2 (by decide) ku_X3 kv_X3 kf_X3_21 rfl lC_o_tunes dX3_note_33 ?_
      refine g_iload_n X dX3_note_36 1 rfl rfl ?_
      refine g_aaldN X 11 t 2 (by omega) lC_tunes rfl (by omega) (by decide) dX3_note_37 ?_
      refine g_getr X (14 + 3 * t) (by omega) 0 (by decide) ku_X2 kv_X2 kf_X3_72 rfl (lC_f_notes (by omega)) dX3_note_38 ?_
      refine g_iload_n X dX3_note_41 2 rfl rfl ?_
      refine g_ialdN X (15 + 3 * t) k (by omega) (lC_notes (by omega)) (by omega) (by decide) dX3_note_42 ?_
      exact g_xiret X hr hlk (by omega) (by omega) dX3_note_43 (by unfold notF; rw [if_pos ibt, ext, if_pos ib2, exk])
    · skip
      have cB := c_5
      exact g_throw X hE hl0 (names := ["java/lang/RuntimeException", "java/lang/Exception"]) (by decide +kernel) (by decide +kernel) kk_X3_67 ki_IOB kst_69 kh_IOB_71 kh_IOB_71g dX3_note_22 dX3_note_25 dX3_note_26 dX3_note_28 dX3_note_31 hxt ⟨Nat.le_of_ble_eq_true rfl, Nat.le_of_ble_eq_true rfl, Nat.le_of_ble_eq_true rfl, Nat.le_of_ble_eq_true rfl⟩ hlk (⟨rfl, by unfold notF; rw [if_pos ibt, ext, if_neg (fun q => cB q.2)]⟩) (by omega) (by omega)

set_option maxHeartbeats 1000000 in
set_option maxRecDepth 100000 in
theorem c_X3_street (l : Launch) (hl0 : l.stackTraces = false) (D : va_G) (cy : Nat → ClassId) (ad : Nat → Nat) (ρ : Nat → Nat → Int32) (N T S d : Nat) (hI : Inv ρ N T S d) (x y : Int32) : gXI l yX3_street cX3_street 3 (some .int) { frames := 7, cells := 3, slots := 18, locals := 110 } D cy 48 ad (cC ad cy) [.ref (ad 0), .int x, .int y] ρ (fun r ρ1 => strF ρ x y = (0, r, ρ1)) (xq2 "java/lang/IllegalArgumentException" "java/lang/IllegalStateException" (strF ρ x y).1) 3 18 := by
  refine gXI_of (ls := [(0, .ref (ad 0)), (1, .int x), (2, .int y)]) RX3 rfl (by decide +kernel) (Nat.le_of_ble_eq_true rfl) rfl ?_
  intro p e s m args below meth c A X hE hxt hr hlk
  obtain ⟨hT, hT6, hS, hS8, hd, hdN, hN, hTu, hSt, hPi, hZ, hHd⟩ := id hI
  have hwd : wdF ρ = nI (d % 7) := by unfold wdF; rw [hd, nI_clamp (by omega)]
  refine g_iload_n X dX3_street_0 1 rfl rfl ?_
  refine g_if_lt X 10 dX3_street_1 (by decide) (fun c_1 => ?_) (fun c_1 => ?_)
  · skip
    have cA := c_1
    exact g_throw X hE hl0 (names := ["java/lang/RuntimeException", "java/lang/Exception"]) (by decide +kernel) (by decide +kernel) kk_X3_75 ki_IAE kst_77 kh_IAE_79 kh_IAE_79g dX3_street_10 dX3_street_13 dX3_street_14 dX3_street_16 dX3_street_19 hxt ⟨Nat.le_of_ble_eq_true rfl, Nat.le_of_ble_eq_true rfl, Nat.le_of_ble_eq_true rfl, Nat.le_of_ble_eq_true rfl⟩ hlk (Or.inl ⟨rfl, by unfold strF; rw [if_neg (fun q => q.1 cA)]⟩) (by omega) (by omega)
  · skip
    have cA := c_1
    refine g_iload_n X dX3_street_4 1 rfl rfl ?_
    refine g_bipush X (v := 90) dX3_street_5 (by decide) ?_
    refine g_icmp_le X 20 dX3_street_7 (by decide) (fun c_2 => ?_) (fun c_2 => ?_)
    · skip
      have ibx : inl x 90 := ⟨cA, c_2⟩
      refine g_iload_n X dX3_street_20 2 rfl rfl ?_
      refine g_xcallSv X hE (c_X3_checkPermits l hl0 D cy ad ρ _) kl_X3_80 ⟨rfl, rfl, Nat.le_of_ble_eq_true rfl, Nat.le_of_ble_eq_true rfl⟩ rfl rfl (Nat.le_of_ble_eq_true rfl) dX3_street_21 ⟨Nat.le_of_ble_eq_true rfl, Nat.le_of_ble_eq_true rfl⟩ (g_out hxt hlk (fun E h => Or.inl ⟨h.1, by unfold strF; rw [if_pos ibx, if_neg h.2]⟩) (by omega) (by omega)) (fun ρ_3 h_5 => ?_)
      obtain ⟨e9, ib9⟩ := h_5
      rw [e9]
      have ib21 := ib9
      refine g_aload_n X dX3_street_24 0 rfl rfl ?_
      refine g_geti X 0 (by omega) 6 (by decide) ku_X3 kv_X3 kf_X3_83 rfl lC_o_streetCount dX3_street_25 ?_
      rw [show ρ 0 6 = nI S from hS]
      refine g_bipush X (v := 8) dX3_street_28 (by decide) ?_
      refine g_icmp_ltN X S 8 43 (by omega) (by omega) dX3_street_30 (by decide) (fun c_6 => ?_) (fun c_6 => ?_)
      · skip
        refine g_aload_n X dX3_street_43 0 rfl rfl ?_
        refine g_getr X 0 (by omega) 3 (by decide) ku_X3 kv_X3 kf_X3_28 rfl lC_o_streets dX3_street_44 ?_
        refine g_aload_n X dX3_street_47 0 rfl rfl ?_
        refine g_geti X 0 (by omega) 6 (by decide) ku_X3 kv_X3 kf_X3_83 rfl lC_o_streetCount dX3_street_48 ?_
        rw [show ρ 0 6 = nI S from hS]
        refine g_aaldN X 12 S 3 (by omega) lC_streets rfl (by omega) (by decide) dX3_street_51 ?_
        refine g_iload_n X dX3_street_52 1 rfl rfl ?_
        refine g_puti X (32 + 2 * S) (by omega) 1 (by decide) ku_X1 kv_X1 kf_X3_88 rfl tyX1 tyX1_ok nmX1 rfl (by decide +kernel) (lC_f_listeners (by omega)) dX3_street_53 (fun ρ_7 eρ_7 => ?_)
        refine g_aload_n X dX3_street_56 0 rfl rfl ?_
        refine g_getr X 0 (by omega) 3 (by decide) ku_X3 kv_X3 kf_X3_28 rfl lC_o_streets dX3_street_57 ?_
        refine g_aload_n X dX3_street_60 0 rfl rfl ?_
        refine g_geti X 0 (by omega) 6 (by decide) ku_X3 kv_X3 kf_X3_83 rfl lC_o_streetCount dX3_street_61 ?_
        rw [show ρ_7 0 6 = nI S by subst_vars; rw [up2_k (by omega)]; exact hS]
        refine g_aaldN X 12 S 3 (by omega) lC_streets rfl (by omega) (by decide) dX3_street_64 ?_
        refine g_iload_n X dX3_street_65 2 rfl rfl ?_
        refine g_puti X (32 + 2 * S) (by omega) 2 (by decide) ku_X1 kv_X1 kf_X3_91 rfl tyX1 tyX1_ok nmX1 rfl (by decide +kernel) (lC_f_permits (by omega)) dX3_street_66 (fun ρ_8 eρ_8 => ?_)
        refine g_aload_n X dX3_street_69 0 rfl rfl ?_
        refine g_dup X dX3_street_70 rfl ?_
        refine g_geti X 0 (by omega) 6 (by decide) ku_X3 kv_X3 kf_X3_83 rfl lC_o_streetCount dX3_street_71 ?_
        rw [show ρ_8 0 6 = nI S by subst_vars; rw [up2_k (by omega), up2_k (by omega)]; exact hS]
        refine g_dup_x1 X dX3_street_74 rfl rfl ?_
        refine g_iconst X (v := 1) dX3_street_75 (by decide) ?_
        refine g_iadd X dX3_street_76 ?_
        refine g_puti X 0 (by omega) 6 (by decide) ku_X3 kv_X3 kf_X3_83 rfl tyX3 tyX3_ok nmX3 rfl (by decide +kernel) lC_o_streetCount dX3_street_77 (fun ρ_9 eρ_9 => ?_)
        exact g_xiret X hr hlk (by omega) (by omega) dX3_street_80 (by subst_vars; unfold strF; rw [if_pos ibx, if_pos ib21, if_neg (by rw [hS]; exact nI_ne (a := S) (b := 8) (by omega) (by omega) (by omega)), hS, show ix (nI S) = S from nI_clamp (by omega)])
      · skip
        exact g_throw X hE hl0 (names := ["java/lang/RuntimeException", "java/lang/Exception"]) (by decide +kernel) (by decide +kernel) kk_X3_44 ki_ISE kst_86 kh_ISE_48 kh_ISE_48g dX3_street_33 dX3_street_36 dX3_street_37 dX3_street_39 dX3_street_42 hxt ⟨Nat.le_of_ble_eq_true rfl, Nat.le_of_ble_eq_true rfl, Nat.le_of_ble_eq_true rfl, Nat.le_of_ble_eq_true rfl⟩ hlk (Or.inr ⟨rfl, by unfold strF; rw [if_pos ibx, if_pos ib21, if_pos (by rw [hS, show S = 8 by omega]; rfl)]⟩) (by omega) (by omega)
    · skip
      have cB := c_2
      exact g_throw X hE hl0 (names := ["java/lang/RuntimeException", "java/lang/Exception"]) (by decide +kernel) (by decide +kernel) kk_X3_75 ki_IAE kst_77 kh_IAE_79 kh_IAE_79g dX3_street_10 dX3_street_13 dX3_street_14 dX3_street_16 dX3_street_19 hxt ⟨Nat.le_of_ble_eq_true rfl, Nat.le_of_ble_eq_true rfl, Nat.le_of_ble_eq_true rfl, Nat.le_of_ble_eq_true rfl⟩ hlk (Or.inl ⟨rfl, by unfold strF; rw [if_neg (fun q => cB q.2)]⟩) (by omega) (by omega)

set_option maxHeartbeats 1000000 in
set_option maxRecDepth 100000 in
theorem c_X3_permit (l : Launch) (hl0 : l.stackTraces = false) (D : va_G) (cy : Nat → ClassId) (ad : Nat → Nat) (ρ : Nat → Nat → Int32) (N T S d : Nat) (hI : Inv ρ N T S d) (x y : Int32) : gXI l yX3_permit cX3_permit 4 (some .int) { frames := 7, cells := 3, slots := 18, locals := 111 } D cy 48 ad (cC ad cy) [.ref (ad 0), .int x, .int y] ρ (fun r ρ1 => perF ρ x y = (0, r, ρ1)) (xq2 "java/lang/IndexOutOfBoundsException" "java/lang/IllegalArgumentException" (perF ρ x y).1) 3 18 := by
  refine gXI_of (ls := [(0, .ref (ad 0)), (1, .int x), (2, .int y)]) RX3 rfl (by decide +kernel) (Nat.le_of_ble_eq_true rfl) rfl ?_
  intro p e s m args below meth c A X hE hxt hr hlk
  obtain ⟨hT, hT6, hS, hS8, hd, hdN, hN, hTu, hSt, hPi, hZ, hHd⟩ := id hI
  have hwd : wdF ρ = nI (d % 7) := by unfold wdF; rw [hd, nI_clamp (by omega)]
  refine g_aload_n X dX3_permit_0 0 rfl rfl ?_
  refine g_iload_n X dX3_permit_1 1 rfl rfl ?_
  refine g_xcallVv X hE 0 (c_X3_checkStreet l hl0 D cy ad ρ _) kl_X3_94 ⟨rfl, rfl, Nat.le_of_ble_eq_true rfl, Nat.le_of_ble_eq_true rfl⟩ (by omega) lC_O kv_X3 rfl rfl (Nat.le_of_ble_eq_true rfl) dX3_permit_2 ⟨Nat.le_of_ble_eq_true rfl, Nat.le_of_ble_eq_true rfl⟩ (g_out hxt hlk (fun E h => Or.inl ⟨h.1, by unfold perF; rw [if_neg h.2]⟩) (by omega) (by omega)) (fun ρ_1 h_3 => ?_)
  obtain ⟨e9, ib9⟩ := h_3
  rw [e9]
  obtain ⟨z, hz, rfl⟩ := inb_N hS (by omega) ib9
  have ibz := ib9
  have exz : ix (nI z) = z := nI_clamp (by omega)
  refine g_iload_n X dX3_permit_5 2 rfl rfl ?_
  refine g_xcallSv X hE (c_X3_checkPermits l hl0 D cy ad ρ _) kl_X3_80 ⟨rfl, rfl, Nat.le_of_ble_eq_true rfl, Nat.le_of_ble_eq_true rfl⟩ rfl rfl (Nat.le_of_ble_eq_true rfl) dX3_permit_6 ⟨Nat.le_of_ble_eq_true rfl, Nat.le_of_ble_eq_true rfl⟩ (g_out hxt hlk (fun E h => Or.inr ⟨h.1, by unfold perF; rw [if_pos ibz, if_neg h.2]⟩) (by omega) (by omega)) (fun ρ_4 h_6 => ?_)
  obtain ⟨e9, ib9⟩ := h_6
  rw [e9]
  have ib6 := ib9
  refine g_aload_n X dX3_permit_9 0 rfl rfl ?_
  refine g_getr X 0 (by omega) 3 (by decide) ku_X3 kv_X3 kf_X3_28 rfl lC_o_streets dX3_permit_10 ?_
  refine g_iload_n X dX3_permit_13 1 rfl rfl ?_
  refine g_aaldN X 12 z 3 (by omega) lC_streets rfl (by omega) (by decide) dX3_permit_14 ?_
  refine g_geti X (32 + 2 * z) (by omega) 2 (by decide) ku_X1 kv_X1 kf_X3_91 rfl (lC_f_permits (by omega)) dX3_permit_15 ?_
  refine g_istore_n X [(3, .int _), (0, .ref _), (1, .int _), (2, .int _)] dX3_permit_18 rfl (by decide) rfl ?_
  refine g_aload_n X dX3_permit_19 1 rfl rfl ?_
  refine g_getr X 0 (by omega) 3 (by decide) ku_X3 kv_X3 kf_X3_28 rfl lC_o_streets dX3_permit_20 ?_
  refine g_iload_n X dX3_permit_23 2 rfl rfl ?_
  refine g_aaldN X 12 z 3 (by omega) lC_streets rfl (by omega) (by decide) dX3_permit_24 ?_
  refine g_iload_n X dX3_permit_25 3 rfl rfl ?_
  refine g_puti X (32 + 2 * z) (by omega) 2 (by decide) ku_X1 kv_X1 kf_X3_91 rfl tyX1 tyX1_ok nmX1 rfl (by decide +kernel) (lC_f_permits (by omega)) dX3_permit_26 (fun ρ_7 eρ_7 => ?_)
  refine g_iload_n X dX3_permit_29 0 rfl rfl ?_
  exact g_xiret X hr hlk (by omega) (by omega) dX3_permit_30 (by subst_vars; unfold perF; rw [if_pos ibz, if_pos ib6, exz])

set_option maxHeartbeats 1000000 in
set_option maxRecDepth 100000 in
theorem c_X3_setDamp (l : Launch) (hl0 : l.stackTraces = false) (D : va_G) (cy : Nat → ClassId) (ad : Nat → Nat) (ρ : Nat → Nat → Int32) (N T S d : Nat) (hI : Inv ρ N T S d) (x y : Int32) : gXI l yX3_setDamp cX3_setDamp 4 (some .int) { frames := 6, cells := 3, slots := 18, locals := 90 } D cy 48 ad (cC ad cy) [.ref (ad 0), .int x, .int y] ρ (fun r ρ1 => damF ρ x y = (0, r, ρ1)) (xq2 "java/lang/IndexOutOfBoundsException" "java/lang/IllegalArgumentException" (damF ρ x y).1) 3 18 := by
  refine gXI_of (ls := [(0, .ref (ad 0)), (1, .int x), (2, .int y)]) RX3 rfl (by decide +kernel) (Nat.le_of_ble_eq_true rfl) rfl ?_
  intro p e s m args below meth c A X hE hxt hr hlk
  obtain ⟨hT, hT6, hS, hS8, hd, hdN, hN, hTu, hSt, hPi, hZ, hHd⟩ := id hI
  have hwd : wdF ρ = nI (d % 7) := by unfold wdF; rw [hd, nI_clamp (by omega)]
  refine g_iload_n X dX3_setDamp_0 1 rfl rfl ?_
  refine g_if_lt X 10 dX3_setDamp_1 (by decide) (fun c_1 => ?_) (fun c_1 => ?_)
  · skip
    have cA := c_1
    exact g_throw X hE hl0 (names := ["java/lang/RuntimeException", "java/lang/Exception"]) (by decide +kernel) (by decide +kernel) kk_X3_67 ki_IOB kst_97 kh_IOB_71 kh_IOB_71g dX3_setDamp_10 dX3_setDamp_13 dX3_setDamp_14 dX3_setDamp_16 dX3_setDamp_19 hxt ⟨Nat.le_of_ble_eq_true rfl, Nat.le_of_ble_eq_true rfl, Nat.le_of_ble_eq_true rfl, Nat.le_of_ble_eq_true rfl⟩ hlk (Or.inl ⟨rfl, by unfold damF; rw [if_neg (fun q => q.1 cA)]⟩) (by omega) (by omega)
  · skip
    have cA := c_1
    refine g_iload_n X dX3_setDamp_4 1 rfl rfl ?_
    refine g_bipush X (v := 7) dX3_setDamp_5 (by decide) ?_
    refine g_icmp_lt X 20 dX3_setDamp_7 (by decide) (fun c_2 => ?_) (fun c_2 => ?_)
    · skip
      have ibw : inb x 7 := ⟨cA, c_2⟩
      obtain ⟨k, hk, rfl⟩ := inb_N (T := 7) rfl (by omega) ibw
      have exk : ix (nI k) = k := nI_clamp (by omega)
      refine g_iload_n X dX3_setDamp_20 2 rfl rfl ?_
      refine g_if_lt X 29 dX3_setDamp_21 (by decide) (fun c_3 => ?_) (fun c_3 => ?_)
      · skip
        have cC := c_3
        exact g_throw X hE hl0 (names := ["java/lang/RuntimeException", "java/lang/Exception"]) (by decide +kernel) (by decide +kernel) kk_X3_75 ki_IAE kst_99 kh_IAE_79 kh_IAE_79g dX3_setDamp_29 dX3_setDamp_32 dX3_setDamp_33 dX3_setDamp_35 dX3_setDamp_38 hxt ⟨Nat.le_of_ble_eq_true rfl, Nat.le_of_ble_eq_true rfl, Nat.le_of_ble_eq_true rfl, Nat.le_of_ble_eq_true rfl⟩ hlk (Or.inr ⟨rfl, by unfold damF; rw [if_pos ibw, if_neg (fun q => q.1 cC)]⟩) (by omega) (by omega)
      · skip
        have cC := c_3
        refine g_iload_n X dX3_setDamp_24 2 rfl rfl ?_
        refine g_iconst X (v := 5) dX3_setDamp_25 (by decide) ?_
        refine g_icmp_le X 39 dX3_setDamp_26 (by decide) (fun c_4 => ?_) (fun c_4 => ?_)
        · skip
          have cD := c_4
          refine g_aload_n X dX3_setDamp_39 0 rfl rfl ?_
          refine g_getr X 0 (by omega) 4 (by decide) ku_X3 kv_X3 kf_X3_33 rfl lC_o_damp dX3_setDamp_40 ?_
          refine g_iload_n X dX3_setDamp_43 1 rfl rfl ?_
          refine g_ialdN X 13 k (by omega) lC_damp (by omega) (by decide) dX3_setDamp_44 ?_
          refine g_istore_n X [(3, .int _), (0, .ref _), (1, .int _), (2, .int _)] dX3_setDamp_45 rfl (by decide) rfl ?_
          refine g_aload_n X dX3_setDamp_46 1 rfl rfl ?_
          refine g_getr X 0 (by omega) 4 (by decide) ku_X3 kv_X3 kf_X3_33 rfl lC_o_damp dX3_setDamp_47 ?_
          refine g_iload_n X dX3_setDamp_50 2 rfl rfl ?_
          refine g_iload_n X dX3_setDamp_51 3 rfl rfl ?_
          refine g_iastN X 13 k (by omega) lC_damp (by omega) (by decide) dX3_setDamp_52 (fun ρ_5 eρ_5 => ?_)
          refine g_iload_n X dX3_setDamp_53 0 rfl rfl ?_
          exact g_xiret X hr hlk (by omega) (by omega) dX3_setDamp_54 (by subst_vars; unfold damF; rw [if_pos ibw, if_pos ⟨cC, cD⟩, exk])
        · skip
          have cD := c_4
          exact g_throw X hE hl0 (names := ["java/lang/RuntimeException", "java/lang/Exception"]) (by decide +kernel) (by decide +kernel) kk_X3_75 ki_IAE kst_99 kh_IAE_79 kh_IAE_79g dX3_setDamp_29 dX3_setDamp_32 dX3_setDamp_33 dX3_setDamp_35 dX3_setDamp_38 hxt ⟨Nat.le_of_ble_eq_true rfl, Nat.le_of_ble_eq_true rfl, Nat.le_of_ble_eq_true rfl, Nat.le_of_ble_eq_true rfl⟩ hlk (Or.inr ⟨rfl, by unfold damF; rw [if_pos ibw, if_neg (fun q => cD q.2)]⟩) (by omega) (by omega)
    · skip
      have cB := c_2
      exact g_throw X hE hl0 (names := ["java/lang/RuntimeException", "java/lang/Exception"]) (by decide +kernel) (by decide +kernel) kk_X3_67 ki_IOB kst_97 kh_IOB_71 kh_IOB_71g dX3_setDamp_10 dX3_setDamp_13 dX3_setDamp_14 dX3_setDamp_16 dX3_setDamp_19 hxt ⟨Nat.le_of_ble_eq_true rfl, Nat.le_of_ble_eq_true rfl, Nat.le_of_ble_eq_true rfl, Nat.le_of_ble_eq_true rfl⟩ hlk (Or.inl ⟨rfl, by unfold damF; rw [if_neg (fun q => cB q.2)]⟩) (by omega) (by omega)

set_option maxHeartbeats 1000000 in
set_option maxRecDepth 100000 in
theorem c_X3_play (l : Launch) (hl0 : l.stackTraces = false) (D : va_G) (cy : Nat → ClassId) (ad : Nat → Nat) (ρ : Nat → Nat → Int32) (N T S d : Nat) (hI : Inv ρ N T S d) (x y : Int32) : gXI l yX3_play cX3_play 4 (some .int) { frames := 7, cells := 3, slots := 18, locals := 111 } D cy 48 ad (cC ad cy) [.ref (ad 0), .int x, .int y] ρ (fun r ρ1 => plaF ρ x y = (0, r, ρ1)) (xq2 "java/lang/IndexOutOfBoundsException" "java/lang/IllegalStateException" (plaF ρ x y).1) 3 18 := by
  refine gXI_of (ls := [(0, .ref (ad 0)), (1, .int x), (2, .int y)]) RX3 rfl (by decide +kernel) (Nat.le_of_ble_eq_true rfl) rfl ?_
  intro p e s m args below meth c A X hE hxt hr hlk
  obtain ⟨hT, hT6, hS, hS8, hd, hdN, hN, hTu, hSt, hPi, hZ, hHd⟩ := id hI
  have hwd : wdF ρ = nI (d % 7) := by unfold wdF; rw [hd, nI_clamp (by omega)]
  refine g_aload_n X dX3_play_0 0 rfl rfl ?_
  refine g_iload_n X dX3_play_1 1 rfl rfl ?_
  refine g_xcallVv X hE 0 (c_X3_checkStreet l hl0 D cy ad ρ _) kl_X3_94 ⟨rfl, rfl, Nat.le_of_ble_eq_true rfl, Nat.le_of_ble_eq_true rfl⟩ (by omega) lC_O kv_X3 rfl rfl (Nat.le_of_ble_eq_true rfl) dX3_play_2 ⟨Nat.le_of_ble_eq_true rfl, Nat.le_of_ble_eq_true rfl⟩ (g_out hxt hlk (fun E h => Or.inl ⟨h.1, by unfold plaF; rw [if_neg h.2]⟩) (by omega) (by omega)) (fun ρ_1 h_3 => ?_)
  obtain ⟨e9, ib9⟩ := h_3
  rw [e9]
  obtain ⟨z, hz, rfl⟩ := inb_N hS (by omega) ib9
  have ibz := ib9
  have exz : ix (nI z) = z := nI_clamp (by omega)
  refine g_aload_n X dX3_play_5 0 rfl rfl ?_
  refine g_iload_n X dX3_play_6 2 rfl rfl ?_
  refine g_xcallVv X hE 0 (c_X3_checkTune l hl0 D cy ad ρ _) kl_X3_51 ⟨rfl, rfl, Nat.le_of_ble_eq_true rfl, Nat.le_of_ble_eq_true rfl⟩ (by omega) lC_O kv_X3 rfl rfl (Nat.le_of_ble_eq_true rfl) dX3_play_7 ⟨Nat.le_of_ble_eq_true rfl, Nat.le_of_ble_eq_true rfl⟩ (g_out hxt hlk (fun E h => Or.inl ⟨h.1, by unfold plaF; rw [if_pos ibz, if_neg h.2]⟩) (by omega) (by omega)) (fun ρ_4 h_6 => ?_)
  obtain ⟨e9, ib9⟩ := h_6
  rw [e9]
  obtain ⟨t, ht, rfl⟩ := inb_N hT (by omega) ib9
  have ibt := ib9
  have ext : ix (nI t) = t := nI_clamp (by omega)
  refine g_aload_n X dX3_play_10 0 rfl rfl ?_
  refine g_getr X 0 (by omega) 2 (by decide) ku_X3 kv_X3 kf_X3_21 rfl lC_o_tunes dX3_play_11 ?_
  refine g_iload_n X dX3_play_14 2 rfl rfl ?_
  refine g_aaldN X 11 t 2 (by omega) lC_tunes rfl (by omega) (by decide) dX3_play_15 ?_
  refine g_geti X (14 + 3 * t) (by omega) 2 (by decide) ku_X2 kv_X2 kf_X3_58 rfl (lC_f_length (by omega)) dX3_play_16 ?_
  refine g_if_ne X 32 dX3_play_19 (by decide) (fun c_7 => ?_) (fun c_7 => ?_)
  · skip
    have cL := c_7
    refine g_aload_n X dX3_play_32 0 rfl rfl ?_
    refine g_getr X 0 (by omega) 3 (by decide) ku_X3 kv_X3 kf_X3_28 rfl lC_o_streets dX3_play_33 ?_
    refine g_iload_n X dX3_play_36 1 rfl rfl ?_
    refine g_aaldN X 12 z 3 (by omega) lC_streets rfl (by omega) (by decide) dX3_play_37 ?_
    refine g_aload_n X dX3_play_38 0 rfl rfl ?_
    refine g_geti X 0 (by omega) 7 (by decide) ku_X3 kv_X3 kf_X3_103 rfl lC_o_day dX3_play_39 ?_
    rw [show ρ 0 7 = nI d from hd]
    refine g_mcallSi X (c_X3_weekdayOf l D cy ad ρ d (by omega)) kl_X3_106 ⟨rfl, rfl, Nat.le_of_ble_eq_true rfl, Nat.le_of_ble_eq_true rfl⟩ rfl rfl (Nat.le_of_ble_eq_true rfl) dX3_play_42 ⟨Nat.le_of_ble_eq_true rfl, Nat.le_of_ble_eq_true rfl⟩ (fun r_9 ρ_8 h_10 => ?_)
    obtain ⟨er_9, e9⟩ := h_10
    rw [e9, er_9]
    clear e9
    refine g_mcallVi X (32 + 2 * z) (c_X1_isPermittedOn l D cy ad ρ z _ (by omega)) kl_X3_109 ⟨rfl, rfl, Nat.le_of_ble_eq_true rfl, Nat.le_of_ble_eq_true rfl⟩ (by omega) (lC_S (by omega)) kv_X1 rfl rfl (Nat.le_of_ble_eq_true rfl) dX3_play_45 ⟨Nat.le_of_ble_eq_true rfl, Nat.le_of_ble_eq_true rfl⟩ (fun r_12 ρ_11 h_13 => ?_)
    obtain ⟨er_12, e9⟩ := h_13
    rw [e9, er_12]
    clear e9
    refine g_if_ne X 57 dX3_play_48 (by decide) (fun c_14 => ?_) (fun c_14 => ?_)
    · skip
      have cP := c_14
      refine g_aload_n X dX3_play_57 0 rfl rfl ?_
      refine g_iload_n X dX3_play_58 1 rfl rfl ?_
      refine g_iload_n X dX3_play_59 2 rfl rfl ?_
      refine g_mcallVi X 0 (c_X3_payNow l D cy ad ρ z t (by omega) (by omega) (Inv_pay hI (by omega) (by omega))) kl_X3_117 ⟨rfl, rfl, Nat.le_of_ble_eq_true rfl, Nat.le_of_ble_eq_true rfl⟩ (by omega) lC_O kv_X3 rfl rfl (Nat.le_of_ble_eq_true rfl) dX3_play_60 ⟨Nat.le_of_ble_eq_true rfl, Nat.le_of_ble_eq_true rfl⟩ (fun r_16 ρ_15 h_17 => ?_)
      obtain ⟨er_16, e9⟩ := h_17
      rw [e9, er_16]
      clear e9
      refine g_istore_n X [(3, .int _), (0, .ref _), (1, .int _), (2, .int _)] dX3_play_63 rfl (by decide) rfl ?_
      refine g_aload_n X dX3_play_64 1 rfl rfl ?_
      refine g_dup X dX3_play_65 rfl ?_
      refine g_geti X 0 (by omega) 8 (by decide) ku_X3 kv_X3 kf_X3_37 rfl lC_o_coins dX3_play_66 ?_
      refine g_iload_n X dX3_play_69 0 rfl rfl ?_
      refine g_iadd X dX3_play_70 ?_
      refine g_puti X 0 (by omega) 8 (by decide) ku_X3 kv_X3 kf_X3_37 rfl tyX3 tyX3_ok nmX3 rfl (by decide +kernel) lC_o_coins dX3_play_71 (fun ρ_18 eρ_18 => ?_)
      refine g_aload_n X dX3_play_74 1 rfl rfl ?_
      refine g_getr X 0 (by omega) 3 (by decide) ku_X3 kv_X3 kf_X3_28 rfl lC_o_streets dX3_play_75 ?_
      refine g_iload_n X dX3_play_78 2 rfl rfl ?_
      refine g_aaldN X 12 z 3 (by omega) lC_streets rfl (by omega) (by decide) dX3_play_79 ?_
      refine g_dup X dX3_play_80 rfl ?_
      refine g_geti X (32 + 2 * z) (by omega) 3 (by decide) ku_X1 kv_X1 kf_X3_121 rfl (lC_f_paid (by omega)) dX3_play_81 ?_
      rw [show ρ_18 (32 + 2 * z) 3 = ρ (32 + 2 * z) 3 by subst_vars; rw [up2_k (by omega)]]
      refine g_iload_n X dX3_play_84 0 rfl rfl ?_
      refine g_iadd X dX3_play_85 ?_
      refine g_puti X (32 + 2 * z) (by omega) 3 (by decide) ku_X1 kv_X1 kf_X3_121 rfl tyX1 tyX1_ok nmX1 rfl (by decide +kernel) (lC_f_paid (by omega)) dX3_play_86 (fun ρ_19 eρ_19 => ?_)
      refine g_aload_n X dX3_play_89 1 rfl rfl ?_
      refine g_getr X 0 (by omega) 3 (by decide) ku_X3 kv_X3 kf_X3_28 rfl lC_o_streets dX3_play_90 ?_
      refine g_iload_n X dX3_play_93 2 rfl rfl ?_
      refine g_aaldN X 12 z 3 (by omega) lC_streets rfl (by omega) (by decide) dX3_play_94 ?_
      refine g_getr X (32 + 2 * z) (by omega) 0 (by decide) ku_X1 kv_X1 kf_X3_124 rfl (lC_f_heard (by omega)) dX3_play_95 ?_
      refine g_iload_n X dX3_play_98 3 rfl rfl ?_
      refine g_dup2 X dX3_play_99 rfl rfl ?_
      refine g_ialdN X (33 + 2 * z) t (by omega) (lC_heard (by omega)) (by omega) (by decide) dX3_play_100 ?_
      rw [show ρ_19 (33 + 2 * z) t = ρ (33 + 2 * z) t by subst_vars; rw [up2_k (by omega), up2_k (by omega)]]
      refine g_iconst X (v := 1) dX3_play_101 (by decide) ?_
      refine g_iadd X dX3_play_102 ?_
      refine g_iastN X (33 + 2 * z) t (by omega) (lC_heard (by omega)) (by omega) (by decide) dX3_play_103 (fun ρ_20 eρ_20 => ?_)
      refine g_aload_n X dX3_play_104 1 rfl rfl ?_
      refine g_getr X 0 (by omega) 2 (by decide) ku_X3 kv_X3 kf_X3_21 rfl lC_o_tunes dX3_play_105 ?_
      refine g_iload_n X dX3_play_108 3 rfl rfl ?_
      refine g_aaldN X 11 t 2 (by omega) lC_tunes rfl (by omega) (by decide) dX3_play_109 ?_
      refine g_aload_n X dX3_play_110 1 rfl rfl ?_
      refine g_getr X 0 (by omega) 0 (by decide) ku_X3 kv_X3 kf_X3_10 rfl lC_o_pipes dX3_play_111 ?_
      refine g_mcallVv X (14 + 3 * t) (c_X2_wearDown l D cy ad ρ_20 t 1 (by omega) (Or.inl rfl)) kl_X3_127 ⟨rfl, rfl, Nat.le_of_ble_eq_true rfl, Nat.le_of_ble_eq_true rfl⟩ (by omega) (lC_T (by omega)) kv_X2 rfl rfl (Nat.le_of_ble_eq_true rfl) dX3_play_114 ⟨Nat.le_of_ble_eq_true rfl, Nat.le_of_ble_eq_true rfl⟩ (fun ρ_21 h_23 => ?_)
      refine g_iload_n X dX3_play_117 0 rfl rfl ?_
      exact g_xiret X hr hlk (by omega) (by omega) dX3_play_118 (by subst_vars; unfold plaF; rw [if_pos ibz, if_pos ibt, if_neg (by rw [ext]; exact cL), if_neg (by rw [exz, hwd]; exact cP), exz, ext]; rfl)
    · skip
      have cP := c_14
      refine g_aload_n X dX3_play_51 0 rfl rfl ?_
      refine g_mcallVi X 0 (c_X3_payFine l D cy ad ρ ) kl_X3_113 ⟨rfl, rfl, Nat.le_of_ble_eq_true rfl, Nat.le_of_ble_eq_true rfl⟩ (by omega) lC_O kv_X3 rfl rfl (Nat.le_of_ble_eq_true rfl) dX3_play_52 ⟨Nat.le_of_ble_eq_true rfl, Nat.le_of_ble_eq_true rfl⟩ (fun r_25 ρ_24 h_26 => ?_)
      obtain ⟨er_25, eρ_24⟩ := h_26
      refine g_ineg X dX3_play_55 ?_
      exact g_xiret X hr hlk (by omega) (by omega) dX3_play_56 (by subst_vars; unfold plaF; rw [if_pos ibz, if_pos ibt, if_neg (by rw [ext]; exact cL), if_pos (by rw [exz, hwd]; exact cP)])
  · skip
    have cL := c_7
    exact g_throw X hE hl0 (names := ["java/lang/RuntimeException", "java/lang/Exception"]) (by decide +kernel) (by decide +kernel) kk_X3_44 ki_ISE kst_101 kh_ISE_48 kh_ISE_48g dX3_play_22 dX3_play_25 dX3_play_26 dX3_play_28 dX3_play_31 hxt ⟨Nat.le_of_ble_eq_true rfl, Nat.le_of_ble_eq_true rfl, Nat.le_of_ble_eq_true rfl, Nat.le_of_ble_eq_true rfl⟩ hlk (Or.inr ⟨rfl, by unfold plaF; rw [if_pos ibz, if_pos ibt, if_pos (by rw [ext]; exact cL)]⟩) (by omega) (by omega)

set_option maxHeartbeats 1000000 in
set_option maxRecDepth 100000 in
theorem c_X3_tune (l : Launch) (hl0 : l.stackTraces = false) (D : va_G) (cy : Nat → ClassId) (ad : Nat → Nat) (ρ : Nat → Nat → Int32) (N T S d : Nat) (hI : Inv ρ N T S d) (x y : Int32) : gXI l yX3_tune cX3_tune 3 (some .int) { frames := 7, cells := 3, slots := 18, locals := 110 } D cy 48 ad (cC ad cy) [.ref (ad 0), .int x, .int y] ρ (fun r ρ1 => tunF ρ x y = (0, r, ρ1)) (xq2 "java/lang/IndexOutOfBoundsException" "java/lang/IllegalArgumentException" (tunF ρ x y).1) 3 18 := by
  refine gXI_of (ls := [(0, .ref (ad 0)), (1, .int x), (2, .int y)]) RX3 rfl (by decide +kernel) (Nat.le_of_ble_eq_true rfl) rfl ?_
  intro p e s m args below meth c A X hE hxt hr hlk
  obtain ⟨hT, hT6, hS, hS8, hd, hdN, hN, hTu, hSt, hPi, hZ, hHd⟩ := id hI
  have hwd : wdF ρ = nI (d % 7) := by unfold wdF; rw [hd, nI_clamp (by omega)]
  refine g_iload_n X dX3_tune_0 1 rfl rfl ?_
  refine g_xcallSv X hE (c_X3_checkPipe l hl0 D cy ad ρ _) kl_X3_55 ⟨rfl, rfl, Nat.le_of_ble_eq_true rfl, Nat.le_of_ble_eq_true rfl⟩ rfl rfl (Nat.le_of_ble_eq_true rfl) dX3_tune_1 ⟨Nat.le_of_ble_eq_true rfl, Nat.le_of_ble_eq_true rfl⟩ (g_out hxt hlk (fun E h => Or.inl ⟨h.1, by unfold tunF; rw [if_neg h.2]⟩) (by omega) (by omega)) (fun ρ_1 h_3 => ?_)
  obtain ⟨e9, ib9⟩ := h_3
  rw [e9]
  obtain ⟨i, hi, rfl⟩ := inb_N (T := 12) rfl (by omega) ib9
  have ibi := ib9
  have exi : ix (nI i) = i := nI_clamp (by omega)
  refine g_iload_n X dX3_tune_4 2 rfl rfl ?_
  refine g_bipush X (v := -120) dX3_tune_5 (by decide) ?_
  refine g_icmp_lt X 16 dX3_tune_7 (by decide) (fun c_4 => ?_) (fun c_4 => ?_)
  · skip
    have cA := c_4
    exact g_throw X hE hl0 (names := ["java/lang/RuntimeException", "java/lang/Exception"]) (by decide +kernel) (by decide +kernel) kk_X3_75 ki_IAE kst_131 kh_IAE_79 kh_IAE_79g dX3_tune_16 dX3_tune_19 dX3_tune_20 dX3_tune_22 dX3_tune_25 hxt ⟨Nat.le_of_ble_eq_true rfl, Nat.le_of_ble_eq_true rfl, Nat.le_of_ble_eq_true rfl, Nat.le_of_ble_eq_true rfl⟩ hlk (Or.inr ⟨rfl, by unfold tunF; rw [if_pos ibi, if_neg (fun q => q.1 cA)]⟩) (by omega) (by omega)
  · skip
    have cA := c_4
    refine g_iload_n X dX3_tune_10 2 rfl rfl ?_
    refine g_bipush X (v := 120) dX3_tune_11 (by decide) ?_
    refine g_icmp_le X 26 dX3_tune_13 (by decide) (fun c_5 => ?_) (fun c_5 => ?_)
    · skip
      have cB := c_5
      refine g_aload_n X dX3_tune_26 0 rfl rfl ?_
      refine g_getr X 0 (by omega) 0 (by decide) ku_X3 kv_X3 kf_X3_10 rfl lC_o_pipes dX3_tune_27 ?_
      refine g_iload_n X dX3_tune_30 1 rfl rfl ?_
      refine g_iload_n X dX3_tune_31 2 rfl rfl ?_
      refine g_mcallVv X 1 (c_X0_shift l D cy ad ρ 1 i _ (Or.inl rfl) (by omega)) kl_X3_133 ⟨rfl, rfl, Nat.le_of_ble_eq_true rfl, Nat.le_of_ble_eq_true rfl⟩ (by omega) (lC_P (Or.inl rfl)) kv_X0 rfl rfl (Nat.le_of_ble_eq_true rfl) dX3_tune_32 ⟨Nat.le_of_ble_eq_true rfl, Nat.le_of_ble_eq_true rfl⟩ (fun ρ_6 h_8 => ?_)
      refine g_aload_n X dX3_tune_35 0 rfl rfl ?_
      refine g_getr X 0 (by omega) 0 (by decide) ku_X3 kv_X3 kf_X3_10 rfl lC_o_pipes dX3_tune_36 ?_
      refine g_getr X 1 (by omega) 1 (by decide) ku_X0 kv_X0 kf_X3_137 rfl (lC_f_off (Or.inl rfl)) dX3_tune_39 ?_
      refine g_iload_n X dX3_tune_42 1 rfl rfl ?_
      refine g_ialdN X (1 + 2) i (by omega) (lC_off (Or.inl rfl)) (by omega) (by decide) dX3_tune_43 ?_
      exact g_xiret X hr hlk (by omega) (by omega) dX3_tune_44 (by subst_vars; unfold tunF; rw [if_pos ibi, if_pos ⟨cA, cB⟩, exi, up2_s])
    · skip
      have cB := c_5
      exact g_throw X hE hl0 (names := ["java/lang/RuntimeException", "java/lang/Exception"]) (by decide +kernel) (by decide +kernel) kk_X3_75 ki_IAE kst_131 kh_IAE_79 kh_IAE_79g dX3_tune_16 dX3_tune_19 dX3_tune_20 dX3_tune_22 dX3_tune_25 hxt ⟨Nat.le_of_ble_eq_true rfl, Nat.le_of_ble_eq_true rfl, Nat.le_of_ble_eq_true rfl, Nat.le_of_ble_eq_true rfl⟩ hlk (Or.inr ⟨rfl, by unfold tunF; rw [if_pos ibi, if_neg (fun q => cB q.2)]⟩) (by omega) (by omega)

set_option maxHeartbeats 1000000 in
set_option maxRecDepth 100000 in
theorem c_X3_felt (l : Launch) (hl0 : l.stackTraces = false) (D : va_G) (cy : Nat → ClassId) (ad : Nat → Nat) (ρ : Nat → Nat → Int32) (N T S d : Nat) (hI : Inv ρ N T S d) (x : Int32) : gXI l yX3_felt cX3_felt 3 (some .int) { frames := 7, cells := 3, slots := 18, locals := 110 } D cy 48 ad (cC ad cy) [.ref (ad 0), .int x] ρ (fun r ρ1 => felF ρ x = (0, r, ρ1)) (xq2 "java/lang/IndexOutOfBoundsException" "java/lang/IllegalStateException" (felF ρ x).1) 3 18 := by
  refine gXI_of (ls := [(0, .ref (ad 0)), (1, .int x)]) RX3 rfl (by decide +kernel) (Nat.le_of_ble_eq_true rfl) rfl ?_
  intro p e s m args below meth c A X hE hxt hr hlk
  obtain ⟨hT, hT6, hS, hS8, hd, hdN, hN, hTu, hSt, hPi, hZ, hHd⟩ := id hI
  have hwd : wdF ρ = nI (d % 7) := by unfold wdF; rw [hd, nI_clamp (by omega)]
  refine g_iload_n X dX3_felt_0 1 rfl rfl ?_
  refine g_xcallSv X hE (c_X3_checkPipe l hl0 D cy ad ρ _) kl_X3_55 ⟨rfl, rfl, Nat.le_of_ble_eq_true rfl, Nat.le_of_ble_eq_true rfl⟩ rfl rfl (Nat.le_of_ble_eq_true rfl) dX3_felt_1 ⟨Nat.le_of_ble_eq_true rfl, Nat.le_of_ble_eq_true rfl⟩ (g_out hxt hlk (fun E h => Or.inl ⟨h.1, by unfold felF; rw [if_neg h.2]⟩) (by omega) (by omega)) (fun ρ_1 h_3 => ?_)
  obtain ⟨e9, ib9⟩ := h_3
  rw [e9]
  obtain ⟨i, hi, rfl⟩ := inb_N (T := 12) rfl (by omega) ib9
  have ibi := ib9
  have exi : ix (nI i) = i := nI_clamp (by omega)
  refine g_aload_n X dX3_felt_4 0 rfl rfl ?_
  refine g_geti X 0 (by omega) 8 (by decide) ku_X3 kv_X3 kf_X3_37 rfl lC_o_coins dX3_felt_5 ?_
  refine g_iconst X (v := 4) dX3_felt_8 (by decide) ?_
  refine g_icmp_ge X 22 dX3_felt_9 (by decide) (fun c_4 => ?_) (fun c_4 => ?_)
  · skip
    have cA := c_4
    refine g_aload_n X dX3_felt_22 0 rfl rfl ?_
    refine g_dup X dX3_felt_23 rfl ?_
    refine g_geti X 0 (by omega) 8 (by decide) ku_X3 kv_X3 kf_X3_37 rfl lC_o_coins dX3_felt_24 ?_
    refine g_iconst X (v := 4) dX3_felt_27 (by decide) ?_
    refine g_isub X dX3_felt_28 ?_
    refine g_puti X 0 (by omega) 8 (by decide) ku_X3 kv_X3 kf_X3_37 rfl tyX3 tyX3_ok nmX3 rfl (by decide +kernel) lC_o_coins dX3_felt_29 (fun ρ_5 eρ_5 => ?_)
    refine g_aload_n X dX3_felt_32 0 rfl rfl ?_
    refine g_getr X 0 (by omega) 0 (by decide) ku_X3 kv_X3 kf_X3_10 rfl lC_o_pipes dX3_felt_33 ?_
    refine g_getr X 1 (by omega) 0 (by decide) ku_X0 kv_X0 kf_X3_142 rfl (lC_f_worn (Or.inl rfl)) dX3_felt_36 ?_
    refine g_iload_n X dX3_felt_39 1 rfl rfl ?_
    refine g_ialdN X (1 + 1) i (by omega) (lC_worn (Or.inl rfl)) (by omega) (by decide) dX3_felt_40 ?_
    rw [show ρ_5 (1 + 1) i = ρ 2 i by subst_vars; rw [up2_k (by omega)]]
    refine g_istore_n X [(2, .int _), (0, .ref _), (1, .int _)] dX3_felt_41 rfl (by decide) rfl ?_
    refine g_aload_n X dX3_felt_42 1 rfl rfl ?_
    refine g_getr X 0 (by omega) 0 (by decide) ku_X3 kv_X3 kf_X3_10 rfl lC_o_pipes dX3_felt_43 ?_
    refine g_getr X 1 (by omega) 0 (by decide) ku_X0 kv_X0 kf_X3_142 rfl (lC_f_worn (Or.inl rfl)) dX3_felt_46 ?_
    refine g_iload_n X dX3_felt_49 2 rfl rfl ?_
    refine g_iconst X (v := 0) dX3_felt_50 (by decide) ?_
    refine g_iastN X (1 + 1) i (by omega) (lC_worn (Or.inl rfl)) (by omega) (by decide) dX3_felt_51 (fun ρ_6 eρ_6 => ?_)
    refine g_iload_n X dX3_felt_52 0 rfl rfl ?_
    exact g_xiret X hr hlk (by omega) (by omega) dX3_felt_53 (by subst_vars; unfold felF; rw [if_pos ibi, if_neg (Int32.not_lt.mpr cA), exi])
  · skip
    have cA := c_4
    exact g_throw X hE hl0 (names := ["java/lang/RuntimeException", "java/lang/Exception"]) (by decide +kernel) (by decide +kernel) kk_X3_44 ki_ISE kst_140 kh_ISE_48 kh_ISE_48g dX3_felt_12 dX3_felt_15 dX3_felt_16 dX3_felt_18 dX3_felt_21 hxt ⟨Nat.le_of_ble_eq_true rfl, Nat.le_of_ble_eq_true rfl, Nat.le_of_ble_eq_true rfl, Nat.le_of_ble_eq_true rfl⟩ hlk (Or.inr ⟨rfl, by unfold felF; rw [if_pos ibi, if_pos (Int32.not_le.mp cA)]⟩) (by omega) (by omega)

set_option maxHeartbeats 1000000 in
set_option maxRecDepth 100000 in
theorem c_X3_chase (l : Launch) (D : va_G) (cy : Nat → ClassId) (ad : Nat → Nat) (ρ : Nat → Nat → Int32)  : gMI l yX3_chase cX3_chase 2 (some .int) { frames := 1, cells := 0, slots := 0, locals := 22 } D cy 48 ad (cC ad cy) [.ref (ad 0)] ρ (fun r ρ1 => r = crc ρ 1 ∧ ρ1 = clrR ρ 1 12) 0 0 := by
  refine gMI_of (ls := [(0, .ref (ad 0))]) RX3 rfl (by decide +kernel) (Nat.le_of_ble_eq_true rfl) rfl ?_
  intro p e s m args below meth c A X hr hlk hnm
  refine g_aload_n X dX3_chase_0 0 rfl rfl ?_
  refine g_getr X 0 (by omega) 0 (by decide) ku_X3 kv_X3 kf_X3_10 rfl lC_o_pipes dX3_chase_1 ?_
  refine g_mcallVi X 1 (c_X0_cricketCount l D cy ad ρ 1 (Or.inl rfl)) kl_X3_145 ⟨rfl, rfl, Nat.le_of_ble_eq_true rfl, Nat.le_of_ble_eq_true rfl⟩ (by omega) (lC_P (Or.inl rfl)) kv_X0 rfl rfl (Nat.le_of_ble_eq_true rfl) dX3_chase_4 ⟨Nat.le_of_ble_eq_true rfl, Nat.le_of_ble_eq_true rfl⟩ (fun r_2 ρ_1 h_3 => ?_)
  obtain ⟨er_2, e9⟩ := h_3
  rw [e9, er_2]
  clear e9
  refine g_istore_n X [(1, .int _), (0, .ref _)] dX3_chase_7 rfl (by decide) rfl ?_
  refine g_aload_n X dX3_chase_8 1 rfl rfl ?_
  refine g_getr X 0 (by omega) 0 (by decide) ku_X3 kv_X3 kf_X3_10 rfl lC_o_pipes dX3_chase_9 ?_
  refine g_mcallVv X 1 (c_X0_clearCrickets l D cy ad ρ 1 (Or.inl rfl)) kl_X3_148 ⟨rfl, rfl, Nat.le_of_ble_eq_true rfl, Nat.le_of_ble_eq_true rfl⟩ (by omega) (lC_P (Or.inl rfl)) kv_X0 rfl rfl (Nat.le_of_ble_eq_true rfl) dX3_chase_12 ⟨Nat.le_of_ble_eq_true rfl, Nat.le_of_ble_eq_true rfl⟩ (fun ρ_4 h_6 => ?_)
  refine g_iload_n X dX3_chase_15 0 rfl rfl ?_
  exact g_iret X hr hlk (by omega) (by omega) dX3_chase_16 (by subst_vars; exact ⟨rfl, rfl⟩)

set_option maxHeartbeats 1000000 in
set_option maxRecDepth 100000 in
theorem c_X3_pipe (l : Launch) (hl0 : l.stackTraces = false) (D : va_G) (cy : Nat → ClassId) (ad : Nat → Nat) (ρ : Nat → Nat → Int32) (N T S d : Nat) (hI : Inv ρ N T S d) (x y : Int32) : gXI l yX3_pipe cX3_pipe 3 (some .int) { frames := 7, cells := 3, slots := 18, locals := 110 } D cy 48 ad (cC ad cy) [.ref (ad 0), .int x, .int y] ρ (fun r ρ1 => pipF ρ x y = (0, r, ρ1)) (xq1 "java/lang/IndexOutOfBoundsException" (pipF ρ x y).1) 3 18 := by
  refine gXI_of (ls := [(0, .ref (ad 0)), (1, .int x), (2, .int y)]) RX3 rfl (by decide +kernel) (Nat.le_of_ble_eq_true rfl) rfl ?_
  intro p e s m args below meth c A X hE hxt hr hlk
  obtain ⟨hT, hT6, hS, hS8, hd, hdN, hN, hTu, hSt, hPi, hZ, hHd⟩ := id hI
  have hwd : wdF ρ = nI (d % 7) := by unfold wdF; rw [hd, nI_clamp (by omega)]
  refine g_iload_n X dX3_pipe_0 1 rfl rfl ?_
  refine g_xcallSv X hE (c_X3_checkPipe l hl0 D cy ad ρ _) kl_X3_55 ⟨rfl, rfl, Nat.le_of_ble_eq_true rfl, Nat.le_of_ble_eq_true rfl⟩ rfl rfl (Nat.le_of_ble_eq_true rfl) dX3_pipe_1 ⟨Nat.le_of_ble_eq_true rfl, Nat.le_of_ble_eq_true rfl⟩ (g_out hxt hlk (fun E h => ⟨h.1, by unfold pipF; rw [if_neg h.2]⟩) (by omega) (by omega)) (fun ρ_1 h_3 => ?_)
  obtain ⟨e9, ib9⟩ := h_3
  rw [e9]
  obtain ⟨i, hi, rfl⟩ := inb_N (T := 12) rfl (by omega) ib9
  have ibi := ib9
  have exi : ix (nI i) = i := nI_clamp (by omega)
  refine g_iload_n X dX3_pipe_4 2 rfl rfl ?_
  refine g_if_lt X 13 dX3_pipe_5 (by decide) (fun c_4 => ?_) (fun c_4 => ?_)
  · skip
    have cA := c_4
    exact g_throw X hE hl0 (names := ["java/lang/RuntimeException", "java/lang/Exception"]) (by decide +kernel) (by decide +kernel) kk_X3_67 ki_IOB kst_151 kh_IOB_71 kh_IOB_71g dX3_pipe_13 dX3_pipe_16 dX3_pipe_17 dX3_pipe_19 dX3_pipe_22 hxt ⟨Nat.le_of_ble_eq_true rfl, Nat.le_of_ble_eq_true rfl, Nat.le_of_ble_eq_true rfl, Nat.le_of_ble_eq_true rfl⟩ hlk (⟨rfl, by unfold pipF; rw [if_pos ibi, if_neg (fun q => q.1 cA)]⟩) (by omega) (by omega)
  · skip
    have cA := c_4
    refine g_iload_n X dX3_pipe_8 2 rfl rfl ?_
    refine g_iconst X (v := 5) dX3_pipe_9 (by decide) ?_
    refine g_icmp_lt X 23 dX3_pipe_10 (by decide) (fun c_5 => ?_) (fun c_5 => ?_)
    · skip
      have ibw : inb y 5 := ⟨cA, c_5⟩
      obtain ⟨k, hk, rfl⟩ := inb_N (T := 5) rfl (by omega) ibw
      have exk : ix (nI k) = k := nI_clamp (by omega)
      refine g_aload_n X dX3_pipe_23 0 rfl rfl ?_
      refine g_getr X 0 (by omega) 0 (by decide) ku_X3 kv_X3 kf_X3_10 rfl lC_o_pipes dX3_pipe_24 ?_
      refine g_iload_n X dX3_pipe_27 1 rfl rfl ?_
      refine g_iload_n X dX3_pipe_28 2 rfl rfl ?_
      refine g_mcallVi X 1 (c_X0_tell l D cy ad ρ 1 i k (Or.inl rfl) (by omega) (by omega)) kl_X3_153 ⟨rfl, rfl, Nat.le_of_ble_eq_true rfl, Nat.le_of_ble_eq_true rfl⟩ (by omega) (lC_P (Or.inl rfl)) kv_X0 rfl rfl (Nat.le_of_ble_eq_true rfl) dX3_pipe_29 ⟨Nat.le_of_ble_eq_true rfl, Nat.le_of_ble_eq_true rfl⟩ (fun r_7 ρ_6 h_8 => ?_)
      obtain ⟨er_7, e9⟩ := h_8
      rw [e9, er_7]
      clear e9
      exact g_xiret X hr hlk (by omega) (by omega) dX3_pipe_32 (by unfold pipF; rw [if_pos ibi, if_pos ibw, exi, exk])
    · skip
      have cB := c_5
      exact g_throw X hE hl0 (names := ["java/lang/RuntimeException", "java/lang/Exception"]) (by decide +kernel) (by decide +kernel) kk_X3_67 ki_IOB kst_151 kh_IOB_71 kh_IOB_71g dX3_pipe_13 dX3_pipe_16 dX3_pipe_17 dX3_pipe_19 dX3_pipe_22 hxt ⟨Nat.le_of_ble_eq_true rfl, Nat.le_of_ble_eq_true rfl, Nat.le_of_ble_eq_true rfl, Nat.le_of_ble_eq_true rfl⟩ hlk (⟨rfl, by unfold pipF; rw [if_pos ibi, if_neg (fun q => cB q.2)]⟩) (by omega) (by omega)

set_option maxHeartbeats 1000000 in
set_option maxRecDepth 100000 in
theorem c_X3_sound (l : Launch) (hl0 : l.stackTraces = false) (D : va_G) (cy : Nat → ClassId) (ad : Nat → Nat) (ρ : Nat → Nat → Int32) (N T S d : Nat) (hI : Inv ρ N T S d) (x : Int32) : gXI l yX3_sound cX3_sound 2 (some .int) { frames := 7, cells := 3, slots := 18, locals := 111 } D cy 48 ad (cC ad cy) [.ref (ad 0), .int x] ρ (fun r ρ1 => souF ρ x = (0, r, ρ1)) (xq1 "java/lang/IndexOutOfBoundsException" (souF ρ x).1) 3 18 := by
  refine gXI_of (ls := [(0, .ref (ad 0)), (1, .int x)]) RX3 rfl (by decide +kernel) (Nat.le_of_ble_eq_true rfl) rfl ?_
  intro p e s m args below meth c A X hE hxt hr hlk
  obtain ⟨hT, hT6, hS, hS8, hd, hdN, hN, hTu, hSt, hPi, hZ, hHd⟩ := id hI
  have hwd : wdF ρ = nI (d % 7) := by unfold wdF; rw [hd, nI_clamp (by omega)]
  refine g_aload_n X dX3_sound_0 0 rfl rfl ?_
  refine g_iload_n X dX3_sound_1 1 rfl rfl ?_
  refine g_xcallVv X hE 0 (c_X3_checkTune l hl0 D cy ad ρ _) kl_X3_51 ⟨rfl, rfl, Nat.le_of_ble_eq_true rfl, Nat.le_of_ble_eq_true rfl⟩ (by omega) lC_O kv_X3 rfl rfl (Nat.le_of_ble_eq_true rfl) dX3_sound_2 ⟨Nat.le_of_ble_eq_true rfl, Nat.le_of_ble_eq_true rfl⟩ (g_out hxt hlk (fun E h => ⟨h.1, by unfold souF; rw [if_neg h.2]⟩) (by omega) (by omega)) (fun ρ_1 h_3 => ?_)
  obtain ⟨e9, ib9⟩ := h_3
  rw [e9]
  obtain ⟨t, ht, rfl⟩ := inb_N hT (by omega) ib9
  have ibt := ib9
  have ext : ix (nI t) = t := nI_clamp (by omega)
  refine g_aload_n X dX3_sound_5 0 rfl rfl ?_
  refine g_getr X 0 (by omega) 2 (by decide) ku_X3 kv_X3 kf_X3_21 rfl lC_o_tunes dX3_sound_6 ?_
  refine g_iload_n X dX3_sound_9 1 rfl rfl ?_
  refine g_aaldN X 11 t 2 (by omega) lC_tunes rfl (by omega) (by decide) dX3_sound_10 ?_
  refine g_aload_n X dX3_sound_11 0 rfl rfl ?_
  refine g_getr X 0 (by omega) 0 (by decide) ku_X3 kv_X3 kf_X3_10 rfl lC_o_pipes dX3_sound_12 ?_
  refine g_mcallVi X (14 + 3 * t) (c_X2_soundOf l D cy ad ρ t 1 (by omega) (Or.inl rfl)) kl_X3_156 ⟨rfl, rfl, Nat.le_of_ble_eq_true rfl, Nat.le_of_ble_eq_true rfl⟩ (by omega) (lC_T (by omega)) kv_X2 rfl rfl (Nat.le_of_ble_eq_true rfl) dX3_sound_15 ⟨Nat.le_of_ble_eq_true rfl, Nat.le_of_ble_eq_true rfl⟩ (fun r_5 ρ_4 h_6 => ?_)
  obtain ⟨er_5, e9⟩ := h_6
  rw [e9, er_5]
  clear e9
  exact g_xiret X hr hlk (by omega) (by omega) dX3_sound_18 (by unfold souF; rw [if_pos ibt, ext])

set_option maxHeartbeats 1000000 in
set_option maxRecDepth 100000 in
theorem c_X3_told (l : Launch) (hl0 : l.stackTraces = false) (D : va_G) (cy : Nat → ClassId) (ad : Nat → Nat) (ρ : Nat → Nat → Int32) (N T S d : Nat) (hI : Inv ρ N T S d) (x y : Int32) : gXI l yX3_told cX3_told 3 (some .int) { frames := 7, cells := 3, slots := 18, locals := 111 } D cy 48 ad (cC ad cy) [.ref (ad 0), .int x, .int y] ρ (fun r ρ1 => tolF ρ x y = (0, r, ρ1)) (xq1 "java/lang/IndexOutOfBoundsException" (tolF ρ x y).1) 3 18 := by
  refine gXI_of (ls := [(0, .ref (ad 0)), (1, .int x), (2, .int y)]) RX3 rfl (by decide +kernel) (Nat.le_of_ble_eq_true rfl) rfl ?_
  intro p e s m args below meth c A X hE hxt hr hlk
  obtain ⟨hT, hT6, hS, hS8, hd, hdN, hN, hTu, hSt, hPi, hZ, hHd⟩ := id hI
  have hwd : wdF ρ = nI (d % 7) := by unfold wdF; rw [hd, nI_clamp (by omega)]
  refine g_aload_n X dX3_told_0 0 rfl rfl ?_
  refine g_iload_n X dX3_told_1 1 rfl rfl ?_
  refine g_xcallVv X hE 0 (c_X3_checkStreet l hl0 D cy ad ρ _) kl_X3_94 ⟨rfl, rfl, Nat.le_of_ble_eq_true rfl, Nat.le_of_ble_eq_true rfl⟩ (by omega) lC_O kv_X3 rfl rfl (Nat.le_of_ble_eq_true rfl) dX3_told_2 ⟨Nat.le_of_ble_eq_true rfl, Nat.le_of_ble_eq_true rfl⟩ (g_out hxt hlk (fun E h => ⟨h.1, by unfold tolF; rw [if_neg h.2]⟩) (by omega) (by omega)) (fun ρ_1 h_3 => ?_)
  obtain ⟨e9, ib9⟩ := h_3
  rw [e9]
  obtain ⟨z, hz, rfl⟩ := inb_N hS (by omega) ib9
  have ibz := ib9
  have exz : ix (nI z) = z := nI_clamp (by omega)
  refine g_iload_n X dX3_told_5 2 rfl rfl ?_
  refine g_if_lt X 14 dX3_told_6 (by decide) (fun c_4 => ?_) (fun c_4 => ?_)
  · skip
    have cA := c_4
    exact g_throw X hE hl0 (names := ["java/lang/RuntimeException", "java/lang/Exception"]) (by decide +kernel) (by decide +kernel) kk_X3_67 ki_IOB kst_151 kh_IOB_71 kh_IOB_71g dX3_told_14 dX3_told_17 dX3_told_18 dX3_told_20 dX3_told_23 hxt ⟨Nat.le_of_ble_eq_true rfl, Nat.le_of_ble_eq_true rfl, Nat.le_of_ble_eq_true rfl, Nat.le_of_ble_eq_true rfl⟩ hlk (⟨rfl, by unfold tolF; rw [if_pos ibz, if_neg (fun q => q.1 cA)]⟩) (by omega) (by omega)
  · skip
    have cA := c_4
    refine g_iload_n X dX3_told_9 2 rfl rfl ?_
    refine g_iconst X (v := 5) dX3_told_10 (by decide) ?_
    refine g_icmp_lt X 24 dX3_told_11 (by decide) (fun c_5 => ?_) (fun c_5 => ?_)
    · skip
      have ibw : inb y 5 := ⟨cA, c_5⟩
      obtain ⟨k, hk, rfl⟩ := inb_N (T := 5) rfl (by omega) ibw
      have exk : ix (nI k) = k := nI_clamp (by omega)
      refine g_aload_n X dX3_told_24 0 rfl rfl ?_
      refine g_getr X 0 (by omega) 3 (by decide) ku_X3 kv_X3 kf_X3_28 rfl lC_o_streets dX3_told_25 ?_
      refine g_iload_n X dX3_told_28 1 rfl rfl ?_
      refine g_aaldN X 12 z 3 (by omega) lC_streets rfl (by omega) (by decide) dX3_told_29 ?_
      refine g_iload_n X dX3_told_30 2 rfl rfl ?_
      refine g_aload_n X dX3_told_31 0 rfl rfl ?_
      refine g_geti X 0 (by omega) 7 (by decide) ku_X3 kv_X3 kf_X3_103 rfl lC_o_day dX3_told_32 ?_
      rw [show ρ 0 7 = nI d from hd]
      refine g_mcallSi X (c_X3_weekdayOf l D cy ad ρ d (by omega)) kl_X3_106 ⟨rfl, rfl, Nat.le_of_ble_eq_true rfl, Nat.le_of_ble_eq_true rfl⟩ rfl rfl (Nat.le_of_ble_eq_true rfl) dX3_told_35 ⟨Nat.le_of_ble_eq_true rfl, Nat.le_of_ble_eq_true rfl⟩ (fun r_7 ρ_6 h_8 => ?_)
      obtain ⟨er_7, e9⟩ := h_8
      rw [e9, er_7]
      clear e9
      refine g_mcallVi X (32 + 2 * z) (c_X1_tell l D cy ad ρ z k _ (by omega) (by omega)) kl_X3_160 ⟨rfl, rfl, Nat.le_of_ble_eq_true rfl, Nat.le_of_ble_eq_true rfl⟩ (by omega) (lC_S (by omega)) kv_X1 rfl rfl (Nat.le_of_ble_eq_true rfl) dX3_told_38 ⟨Nat.le_of_ble_eq_true rfl, Nat.le_of_ble_eq_true rfl⟩ (fun r_10 ρ_9 h_11 => ?_)
      obtain ⟨er_10, e9⟩ := h_11
      rw [e9, er_10]
      clear e9
      exact g_xiret X hr hlk (by omega) (by omega) dX3_told_41 (by unfold tolF; rw [if_pos ibz, if_pos ibw, exz, exk, hwd])
    · skip
      have cB := c_5
      exact g_throw X hE hl0 (names := ["java/lang/RuntimeException", "java/lang/Exception"]) (by decide +kernel) (by decide +kernel) kk_X3_67 ki_IOB kst_151 kh_IOB_71 kh_IOB_71g dX3_told_14 dX3_told_17 dX3_told_18 dX3_told_20 dX3_told_23 hxt ⟨Nat.le_of_ble_eq_true rfl, Nat.le_of_ble_eq_true rfl, Nat.le_of_ble_eq_true rfl, Nat.le_of_ble_eq_true rfl⟩ hlk (⟨rfl, by unfold tolF; rw [if_pos ibz, if_neg (fun q => cB q.2)]⟩) (by omega) (by omega)

set_option maxHeartbeats 1000000 in
set_option maxRecDepth 100000 in
theorem c_X3_count (l : Launch) (hl0 : l.stackTraces = false) (D : va_G) (cy : Nat → ClassId) (ad : Nat → Nat) (ρ : Nat → Nat → Int32) (N T S d : Nat) (hI : Inv ρ N T S d) (x : Int32) : gXI l yX3_count cX3_count 2 (some .int) { frames := 6, cells := 3, slots := 18, locals := 90 } D cy 48 ad (cC ad cy) [.ref (ad 0), .int x] ρ (fun r ρ1 => couF ρ x = (0, r, ρ1)) (xq1 "java/lang/IndexOutOfBoundsException" (couF ρ x).1) 3 18 := by
  refine gXI_of (ls := [(0, .ref (ad 0)), (1, .int x)]) RX3 rfl (by decide +kernel) (Nat.le_of_ble_eq_true rfl) rfl ?_
  intro p e s m args below meth c A X hE hxt hr hlk
  obtain ⟨hT, hT6, hS, hS8, hd, hdN, hN, hTu, hSt, hPi, hZ, hHd⟩ := id hI
  have hwd : wdF ρ = nI (d % 7) := by unfold wdF; rw [hd, nI_clamp (by omega)]
  refine g_iload_n X dX3_count_0 1 rfl rfl ?_
  refine g_if_lt X 10 dX3_count_1 (by decide) (fun c_1 => ?_) (fun c_1 => ?_)
  · skip
    have cA := c_1
    exact g_throw X hE hl0 (names := ["java/lang/RuntimeException", "java/lang/Exception"]) (by decide +kernel) (by decide +kernel) kk_X3_67 ki_IOB kst_161 kh_IOB_71 kh_IOB_71g dX3_count_10 dX3_count_13 dX3_count_14 dX3_count_16 dX3_count_19 hxt ⟨Nat.le_of_ble_eq_true rfl, Nat.le_of_ble_eq_true rfl, Nat.le_of_ble_eq_true rfl, Nat.le_of_ble_eq_true rfl⟩ hlk (⟨rfl, by unfold couF; rw [if_neg (fun q => q.1 cA)]⟩) (by omega) (by omega)
  · skip
    have cA := c_1
    refine g_iload_n X dX3_count_4 1 rfl rfl ?_
    refine g_bipush X (v := 9) dX3_count_5 (by decide) ?_
    refine g_icmp_lt X 20 dX3_count_7 (by decide) (fun c_2 => ?_) (fun c_2 => ?_)
    · skip
      have ibw : inb x 9 := ⟨cA, c_2⟩
      obtain ⟨k, hk, rfl⟩ := inb_N (T := 9) rfl (by omega) ibw
      have exk : ix (nI k) = k := nI_clamp (by omega)
      refine g_aload_n X dX3_count_20 0 rfl rfl ?_
      refine g_iload_n X dX3_count_21 1 rfl rfl ?_
      refine g_mcallVi X 0 (c_X3_countNow l D cy ad ρ k d (by omega) hd (by omega)) kl_X3_163 ⟨rfl, rfl, Nat.le_of_ble_eq_true rfl, Nat.le_of_ble_eq_true rfl⟩ (by omega) lC_O kv_X3 rfl rfl (Nat.le_of_ble_eq_true rfl) dX3_count_22 ⟨Nat.le_of_ble_eq_true rfl, Nat.le_of_ble_eq_true rfl⟩ (fun r_4 ρ_3 h_5 => ?_)
      obtain ⟨er_4, e9⟩ := h_5
      rw [e9, er_4]
      clear e9
      exact g_xiret X hr hlk (by omega) (by omega) dX3_count_25 (by unfold couF; rw [if_pos ibw, exk])
    · skip
      have cB := c_2
      exact g_throw X hE hl0 (names := ["java/lang/RuntimeException", "java/lang/Exception"]) (by decide +kernel) (by decide +kernel) kk_X3_67 ki_IOB kst_161 kh_IOB_71 kh_IOB_71g dX3_count_10 dX3_count_13 dX3_count_14 dX3_count_16 dX3_count_19 hxt ⟨Nat.le_of_ble_eq_true rfl, Nat.le_of_ble_eq_true rfl, Nat.le_of_ble_eq_true rfl, Nat.le_of_ble_eq_true rfl⟩ hlk (⟨rfl, by unfold couF; rw [if_neg (fun q => cB q.2)]⟩) (by omega) (by omega)

set_option maxHeartbeats 1000000 in
set_option maxRecDepth 100000 in
theorem c_X3_rest (l : Launch) (hl0 : l.stackTraces = false) (D : va_G) (cy : Nat → ClassId) (ad : Nat → Nat) (ρ : Nat → Nat → Int32) (N T S d : Nat) (hI : Inv ρ N T S d) (x : Int32) : gXI l yX3_rest cX3_rest 4 (some .int) { frames := 7, cells := 3, slots := 18, locals := 110 } D cy 48 ad (cC ad cy) [.ref (ad 0), .int x] ρ (fun r ρ1 => resF ρ x = (0, r, ρ1)) (xq1 "java/lang/IllegalArgumentException" (resF ρ x).1) 3 18 := by
  refine gXI_of (ls := [(0, .ref (ad 0)), (1, .int x)]) RX3 rfl (by decide +kernel) (Nat.le_of_ble_eq_true rfl) rfl ?_
  intro p e s m args below meth c A X hE hxt hr hlk
  obtain ⟨hT, hT6, hS, hS8, hd, hdN, hN, hTu, hSt, hPi, hZ, hHd⟩ := id hI
  have hwd : wdF ρ = nI (d % 7) := by unfold wdF; rw [hd, nI_clamp (by omega)]
  refine g_iload_n X dX3_rest_0 1 rfl rfl ?_
  refine g_xcallSv X hE (c_X3_checkNights l hl0 D cy ad ρ _) kl_X3_166 ⟨rfl, rfl, Nat.le_of_ble_eq_true rfl, Nat.le_of_ble_eq_true rfl⟩ rfl rfl (Nat.le_of_ble_eq_true rfl) dX3_rest_1 ⟨Nat.le_of_ble_eq_true rfl, Nat.le_of_ble_eq_true rfl⟩ (g_out hxt hlk (fun E h => ⟨h.1, by unfold resF; rw [if_neg h.2]⟩) (by omega) (by omega)) (fun ρ_1 h_3 => ?_)
  obtain ⟨e9, ib9⟩ := h_3
  rw [e9]
  obtain ⟨nn, hnn, rfl⟩ := nig_N ib9
  have ibnn := ib9
  have exnn : ix (nI nn) = nn := nI_clamp (by omega)
  refine g_aload_n X dX3_rest_4 0 rfl rfl ?_
  refine g_aload_n X dX3_rest_5 0 rfl rfl ?_
  refine g_getr X 0 (by omega) 0 (by decide) ku_X3 kv_X3 kf_X3_10 rfl lC_o_pipes dX3_rest_6 ?_
  refine g_iload_n X dX3_rest_9 1 rfl rfl ?_
  refine g_mcallVi X 0 (c_X3_passNights l D cy ad ρ 1 nn d (Or.inl rfl) hd (by omega)) kl_X3_169 ⟨rfl, rfl, Nat.le_of_ble_eq_true rfl, Nat.le_of_ble_eq_true rfl⟩ (by omega) lC_O kv_X3 rfl rfl (Nat.le_of_ble_eq_true rfl) dX3_rest_10 ⟨Nat.le_of_ble_eq_true rfl, Nat.le_of_ble_eq_true rfl⟩ (fun r_5 ρ_4 h_6 => ?_)
  obtain ⟨er9, eρ9⟩ := h_6
  rw [eρ9, er9]
  refine g_istore_n X [(2, .int _), (0, .ref _), (1, .int _)] dX3_rest_13 rfl (by decide) rfl ?_
  refine g_iconst X (v := 0) dX3_rest_14 (by decide) ?_
  refine g_istore_n X [(3, .int _), (2, .int _), (0, .ref _), (1, .int _)] dX3_rest_15 rfl (by decide) rfl ?_
  refine g_ls (ls' := [(0, .ref _), (1, .int _), (2, .int _), (3, .int _)]) [2, 3, 1, 0] rfl ?_
  refine g_loop (fun _ => True) (fun i => fgA (nsR ρ 1 d nn) i) (fun i => [(0, .ref (ad 0)), (1, .int (nI nn)), (2, .int (csF ρ 1 d nn)), (3, .int (nI i))]) (fun _ => ((0 + 1) + 0)) (fun _ => ((0 + 6) + 0)) S 0 trivial (by omega) rfl fgA_0.symm rfl rfl (fun i h0i hi hIi ihi => ?_)
  obtain ⟨ρa, eρa⟩ : ∃ ρz, ρz = fgA (nsR ρ 1 d nn) i := ⟨_, rfl⟩
  rw [← eρa]
  have hSa : ρa 0 6 = nI S := by rw [eρa]; unfold fgA; rw [if_neg (by omega), nsR_out (k := 0) (by omega)]; exact hS
  have hda : ρa 0 7 = nI d := by rw [eρa]; unfold fgA; rw [if_neg (by omega), nsR_out (k := 0) (by omega)]; exact hd
  refine g_iload_n X dX3_rest_16 3 rfl rfl ?_
  refine g_aload_n X dX3_rest_17 0 rfl rfl ?_
  refine g_geti X 0 (by omega) 6 (by decide) ku_X3 kv_X3 kf_X3_83 rfl lC_o_streetCount dX3_rest_18 ?_
  rw [hSa]
  refine g_icmp_geN X i S 39 (by omega) (by omega) dX3_rest_21 (by decide) (fun c_7 => ?_) (fun c_7 => ?_)
  · skip
    refine g_aload_n X dX3_rest_39 0 rfl rfl ?_
    refine g_dup X dX3_rest_40 rfl ?_
    refine g_geti X 0 (by omega) 7 (by decide) ku_X3 kv_X3 kf_X3_103 rfl lC_o_day dX3_rest_41 ?_
    rw [hda]
    refine g_iload_n X dX3_rest_44 1 rfl rfl ?_
    refine g_iadd X dX3_rest_45 ?_
    rw [nI_add]
    refine g_puti X 0 (by omega) 7 (by decide) ku_X3 kv_X3 kf_X3_103 rfl tyX3 tyX3_ok nmX3 rfl (by decide +kernel) lC_o_day dX3_rest_46 (fun ρ_8 eρ_8 => ?_)
    refine g_iload_n X dX3_rest_49 2 rfl rfl ?_
    exact g_xiret X hr hlk (by omega) (by omega) dX3_rest_50 (by subst_vars; unfold resF; rw [if_pos ibnn, exnn]; unfold resR; rw [hd, hS, show ix (nI d) = d from nI_clamp (by omega), show ix (nI S) = S from nI_clamp (by omega), show i = S by omega])
  · skip
    refine g_aload_n X dX3_rest_24 0 rfl rfl ?_
    refine g_getr X 0 (by omega) 3 (by decide) ku_X3 kv_X3 kf_X3_28 rfl lC_o_streets dX3_rest_25 ?_
    refine g_iload_n X dX3_rest_28 3 rfl rfl ?_
    refine g_aaldN X 12 i 3 (by omega) lC_streets rfl (by omega) (by decide) dX3_rest_29 ?_
    refine g_mcallVv X (32 + 2 * i) (c_X1_forgetDay l D cy ad ρa i (by omega)) kl_X3_173 ⟨rfl, rfl, Nat.le_of_ble_eq_true rfl, Nat.le_of_ble_eq_true rfl⟩ (by omega) (lC_S (by omega)) kv_X1 rfl rfl (Nat.le_of_ble_eq_true rfl) dX3_rest_30 ⟨Nat.le_of_ble_eq_true rfl, Nat.le_of_ble_eq_true rfl⟩ (fun ρ_9 h_11 => ?_)
    refine g_iincN X i 3 [(3, .int _), (0, .ref _), (1, .int _), (2, .int _)] 3 dX3_rest_33 rfl (by decide) rfl ?_
    refine g_goto X 16 dX3_rest_36 (by decide) ?_
    refine g_ls (ls' := [(0, .ref _), (1, .int _), (2, .int _), (3, .int _)]) [1, 2, 3, 0] rfl ?_
    exact g_eqv (ihi (by omega) trivial) (rfl) (by subst_vars; funext k j; simp only [fgR, fgA]; grind) rfl rfl

set_option maxHeartbeats 1000000 in
set_option maxRecDepth 100000 in
theorem c_X3_pays (l : Launch) (hl0 : l.stackTraces = false) (D : va_G) (cy : Nat → ClassId) (ad : Nat → Nat) (ρ : Nat → Nat → Int32) (N T S d : Nat) (hI : Inv ρ N T S d) (x y : Int32) : gXI l yX3_pays cX3_pays 3 (some .int) { frames := 7, cells := 3, slots := 18, locals := 111 } D cy 48 ad (cC ad cy) [.ref (ad 0), .int x, .int y] ρ (fun r ρ1 => payF ρ x y = (0, r, ρ1)) (xq1 "java/lang/IndexOutOfBoundsException" (payF ρ x y).1) 3 18 := by
  refine gXI_of (ls := [(0, .ref (ad 0)), (1, .int x), (2, .int y)]) RX3 rfl (by decide +kernel) (Nat.le_of_ble_eq_true rfl) rfl ?_
  intro p e s m args below meth c A X hE hxt hr hlk
  obtain ⟨hT, hT6, hS, hS8, hd, hdN, hN, hTu, hSt, hPi, hZ, hHd⟩ := id hI
  have hwd : wdF ρ = nI (d % 7) := by unfold wdF; rw [hd, nI_clamp (by omega)]
  refine g_aload_n X dX3_pays_0 0 rfl rfl ?_
  refine g_iload_n X dX3_pays_1 1 rfl rfl ?_
  refine g_xcallVv X hE 0 (c_X3_checkStreet l hl0 D cy ad ρ _) kl_X3_94 ⟨rfl, rfl, Nat.le_of_ble_eq_true rfl, Nat.le_of_ble_eq_true rfl⟩ (by omega) lC_O kv_X3 rfl rfl (Nat.le_of_ble_eq_true rfl) dX3_pays_2 ⟨Nat.le_of_ble_eq_true rfl, Nat.le_of_ble_eq_true rfl⟩ (g_out hxt hlk (fun E h => ⟨h.1, by unfold payF; rw [if_neg h.2]⟩) (by omega) (by omega)) (fun ρ_1 h_3 => ?_)
  obtain ⟨e9, ib9⟩ := h_3
  rw [e9]
  obtain ⟨z, hz, rfl⟩ := inb_N hS (by omega) ib9
  have ibz := ib9
  have exz : ix (nI z) = z := nI_clamp (by omega)
  refine g_aload_n X dX3_pays_5 0 rfl rfl ?_
  refine g_iload_n X dX3_pays_6 2 rfl rfl ?_
  refine g_xcallVv X hE 0 (c_X3_checkTune l hl0 D cy ad ρ _) kl_X3_51 ⟨rfl, rfl, Nat.le_of_ble_eq_true rfl, Nat.le_of_ble_eq_true rfl⟩ (by omega) lC_O kv_X3 rfl rfl (Nat.le_of_ble_eq_true rfl) dX3_pays_7 ⟨Nat.le_of_ble_eq_true rfl, Nat.le_of_ble_eq_true rfl⟩ (g_out hxt hlk (fun E h => ⟨h.1, by unfold payF; rw [if_pos ibz, if_neg h.2]⟩) (by omega) (by omega)) (fun ρ_4 h_6 => ?_)
  obtain ⟨e9, ib9⟩ := h_6
  rw [e9]
  obtain ⟨t, ht, rfl⟩ := inb_N hT (by omega) ib9
  have ibt := ib9
  have ext : ix (nI t) = t := nI_clamp (by omega)
  refine g_aload_n X dX3_pays_10 0 rfl rfl ?_
  refine g_iload_n X dX3_pays_11 1 rfl rfl ?_
  refine g_iload_n X dX3_pays_12 2 rfl rfl ?_
  refine g_mcallVi X 0 (c_X3_payNow l D cy ad ρ z t (by omega) (by omega) (Inv_pay hI (by omega) (by omega))) kl_X3_117 ⟨rfl, rfl, Nat.le_of_ble_eq_true rfl, Nat.le_of_ble_eq_true rfl⟩ (by omega) lC_O kv_X3 rfl rfl (Nat.le_of_ble_eq_true rfl) dX3_pays_13 ⟨Nat.le_of_ble_eq_true rfl, Nat.le_of_ble_eq_true rfl⟩ (fun r_8 ρ_7 h_9 => ?_)
  obtain ⟨er_8, e9⟩ := h_9
  rw [e9, er_8]
  clear e9
  exact g_xiret X hr hlk (by omega) (by omega) dX3_pays_16 (by unfold payF; rw [if_pos ibz, if_pos ibt, exz, ext])

set_option maxHeartbeats 1000000 in
set_option maxRecDepth 100000 in
theorem c_X3_best (l : Launch) (hl0 : l.stackTraces = false) (D : va_G) (cy : Nat → ClassId) (ad : Nat → Nat) (ρ : Nat → Nat → Int32) (N T S d : Nat) (hI : Inv ρ N T S d) (x : Int32) : gXI l yX3_best cX3_best 6 (some .int) { frames := 7, cells := 3, slots := 18, locals := 111 } D cy 48 ad (cC ad cy) [.ref (ad 0), .int x] ρ (fun r ρ1 => besF ρ x = (0, r, ρ1)) (xq1 "java/lang/IndexOutOfBoundsException" (besF ρ x).1) 3 18 := by
  refine gXI_of (ls := [(0, .ref (ad 0)), (1, .int x)]) RX3 rfl (by decide +kernel) (Nat.le_of_ble_eq_true rfl) rfl ?_
  intro p e s m args below meth c A X hE hxt hr hlk
  obtain ⟨hT, hT6, hS, hS8, hd, hdN, hN, hTu, hSt, hPi, hZ, hHd⟩ := id hI
  have hwd : wdF ρ = nI (d % 7) := by unfold wdF; rw [hd, nI_clamp (by omega)]
  refine g_aload_n X dX3_best_0 0 rfl rfl ?_
  refine g_iload_n X dX3_best_1 1 rfl rfl ?_
  refine g_xcallVv X hE 0 (c_X3_checkStreet l hl0 D cy ad ρ _) kl_X3_94 ⟨rfl, rfl, Nat.le_of_ble_eq_true rfl, Nat.le_of_ble_eq_true rfl⟩ (by omega) lC_O kv_X3 rfl rfl (Nat.le_of_ble_eq_true rfl) dX3_best_2 ⟨Nat.le_of_ble_eq_true rfl, Nat.le_of_ble_eq_true rfl⟩ (g_out hxt hlk (fun E h => ⟨h.1, by unfold besF; rw [if_neg h.2]⟩) (by omega) (by omega)) (fun ρ_1 h_3 => ?_)
  obtain ⟨e9, ib9⟩ := h_3
  rw [e9]
  obtain ⟨z, hz, rfl⟩ := inb_N hS (by omega) ib9
  have ibz := ib9
  have exz : ix (nI z) = z := nI_clamp (by omega)
  refine g_iconst X (v := -1) dX3_best_5 (by decide) ?_
  refine g_istore_n X [(2, .int _), (0, .ref _), (1, .int _)] dX3_best_6 rfl (by decide) rfl ?_
  refine g_iconst X (v := 0) dX3_best_7 (by decide) ?_
  refine g_istore_n X [(3, .int _), (2, .int _), (0, .ref _), (1, .int _)] dX3_best_8 rfl (by decide) rfl ?_
  refine g_iconst X (v := 0) dX3_best_9 (by decide) ?_
  refine g_istore X [(4, .int _), (3, .int _), (2, .int _), (0, .ref _), (1, .int _)] dX3_best_10 (by decide) rfl ?_
  refine g_ls (ls' := [(0, .ref _), (1, .int _), (2, .int _), (3, .int _), (4, .int _)]) [3, 4, 2, 1, 0] rfl ?_
  refine g_loop (fun _ => True) (fun _ => ρ) (fun i => [(0, .ref (ad 0)), (1, .int (nI z)), (2, .int (bsP ρ z i).2), (3, .int (bsP ρ z i).1), (4, .int (nI i))]) (fun _ => (0 + 1)) (fun _ => (0 + 6)) T 0 trivial (by omega) rfl rfl rfl rfl (fun i h0i hi hIi ihi => ?_)
  refine g_iload X dX3_best_12 4 rfl ?_
  refine g_aload_n X dX3_best_14 0 rfl rfl ?_
  refine g_geti X 0 (by omega) 5 (by decide) ku_X3 kv_X3 kf_X3_41 rfl lC_o_tuneCount dX3_best_15 ?_
  rw [show ρ 0 5 = nI T from hT]
  refine g_icmp_geN X i T 48 (by omega) (by omega) dX3_best_18 (by decide) (fun c_4 => ?_) (fun c_4 => ?_)
  · skip
    refine g_iload_n X dX3_best_48 2 rfl rfl ?_
    exact g_xiret X hr hlk (by omega) (by omega) dX3_best_49 (by unfold besF; rw [if_pos ibz, exz, hT, show ix (nI T) = i by rw [show i = T by omega]; exact nI_clamp (by omega)])
  · skip
    refine g_aload_n X dX3_best_21 0 rfl rfl ?_
    refine g_iload_n X dX3_best_22 1 rfl rfl ?_
    refine g_iload X dX3_best_23 4 rfl ?_
    refine g_mcallVi X 0 (c_X3_payNow l D cy ad ρ z i (by omega) (by omega) (Inv_pay hI (by omega) (by omega))) kl_X3_117 ⟨rfl, rfl, Nat.le_of_ble_eq_true rfl, Nat.le_of_ble_eq_true rfl⟩ (by omega) lC_O kv_X3 rfl rfl (Nat.le_of_ble_eq_true rfl) dX3_best_25 ⟨Nat.le_of_ble_eq_true rfl, Nat.le_of_ble_eq_true rfl⟩ (fun r_6 ρ_5 h_7 => ?_)
    obtain ⟨er_6, e9⟩ := h_7
    rw [e9, er_6]
    clear e9
    refine g_istore X [(5, .int _), (0, .ref _), (1, .int _), (2, .int _), (3, .int _), (4, .int _)] dX3_best_28 (by decide) rfl ?_
    refine g_iload X dX3_best_30 0 rfl ?_
    refine g_iload_n X dX3_best_32 4 rfl rfl ?_
    refine g_icmp_le X 42 dX3_best_33 (by decide) (fun c_8 => ?_) (fun c_8 => ?_)
    · skip
      have cQ := c_8
      refine g_iincN X i 4 [(4, .int _), (5, .int _), (0, .ref _), (1, .int _), (2, .int _), (3, .int _)] 5 dX3_best_42 rfl (by decide) rfl ?_
      refine g_goto X 12 dX3_best_45 (by decide) ?_
      refine g_ls (ls' := [(0, .ref _), (1, .int _), (2, .int _), (3, .int _), (4, .int _)]) [2, 3, 4, 5, 0] rfl ?_
      exact g_eqv (ihi (by omega) trivial) (by simp only [bsP]; first | rw [if_pos cQ] | rw [if_neg cQ]) (rfl) rfl rfl
    · skip
      have cQ := c_8
      refine g_iload X dX3_best_36 0 rfl ?_
      refine g_istore_n X [(3, .int _), (5, .int _), (0, .ref _), (1, .int _), (2, .int _), (4, .int _)] dX3_best_38 rfl (by decide) rfl ?_
      refine g_iload X dX3_best_39 5 rfl ?_
      refine g_istore_n X [(2, .int _), (3, .int _), (5, .int _), (0, .ref _), (1, .int _), (4, .int _)] dX3_best_41 rfl (by decide) rfl ?_
      refine g_iincN X i 4 [(4, .int _), (2, .int _), (3, .int _), (5, .int _), (0, .ref _), (1, .int _)] 5 dX3_best_42 rfl (by decide) rfl ?_
      refine g_goto X 12 dX3_best_45 (by decide) ?_
      refine g_ls (ls' := [(0, .ref _), (1, .int _), (2, .int _), (3, .int _), (4, .int _)]) [4, 5, 1, 2, 0] rfl ?_
      exact g_eqv (ihi (by omega) trivial) (by simp only [bsP]; first | rw [if_pos cQ] | rw [if_neg cQ]) (rfl) rfl rfl

set_option maxHeartbeats 1000000 in
set_option maxRecDepth 100000 in
theorem c_X3_worst (l : Launch) (hl0 : l.stackTraces = false) (D : va_G) (cy : Nat → ClassId) (ad : Nat → Nat) (ρ : Nat → Nat → Int32) (N T S d : Nat) (hI : Inv ρ N T S d) (x : Int32) : gXI l yX3_worst cX3_worst 6 (some .int) { frames := 7, cells := 3, slots := 18, locals := 111 } D cy 48 ad (cC ad cy) [.ref (ad 0), .int x] ρ (fun r ρ1 => worF ρ x = (0, r, ρ1)) (xq1 "java/lang/IndexOutOfBoundsException" (worF ρ x).1) 3 18 := by
  refine gXI_of (ls := [(0, .ref (ad 0)), (1, .int x)]) RX3 rfl (by decide +kernel) (Nat.le_of_ble_eq_true rfl) rfl ?_
  intro p e s m args below meth c A X hE hxt hr hlk
  obtain ⟨hT, hT6, hS, hS8, hd, hdN, hN, hTu, hSt, hPi, hZ, hHd⟩ := id hI
  have hwd : wdF ρ = nI (d % 7) := by unfold wdF; rw [hd, nI_clamp (by omega)]
  refine g_aload_n X dX3_worst_0 0 rfl rfl ?_
  refine g_iload_n X dX3_worst_1 1 rfl rfl ?_
  refine g_xcallVv X hE 0 (c_X3_checkTune l hl0 D cy ad ρ _) kl_X3_51 ⟨rfl, rfl, Nat.le_of_ble_eq_true rfl, Nat.le_of_ble_eq_true rfl⟩ (by omega) lC_O kv_X3 rfl rfl (Nat.le_of_ble_eq_true rfl) dX3_worst_2 ⟨Nat.le_of_ble_eq_true rfl, Nat.le_of_ble_eq_true rfl⟩ (g_out hxt hlk (fun E h => ⟨h.1, by unfold worF; rw [if_neg h.2]⟩) (by omega) (by omega)) (fun ρ_1 h_3 => ?_)
  obtain ⟨e9, ib9⟩ := h_3
  rw [e9]
  obtain ⟨t, ht, rfl⟩ := inb_N hT (by omega) ib9
  have ibt := ib9
  have ext : ix (nI t) = t := nI_clamp (by omega)
  refine g_iconst X (v := -1) dX3_worst_5 (by decide) ?_
  refine g_istore_n X [(2, .int _), (0, .ref _), (1, .int _)] dX3_worst_6 rfl (by decide) rfl ?_
  refine g_aload_n X dX3_worst_7 1 rfl rfl ?_
  refine g_getr X 0 (by omega) 2 (by decide) ku_X3 kv_X3 kf_X3_21 rfl lC_o_tunes dX3_worst_8 ?_
  refine g_iload_n X dX3_worst_11 2 rfl rfl ?_
  refine g_aaldN X 11 t 2 (by omega) lC_tunes rfl (by omega) (by decide) dX3_worst_12 ?_
  refine g_aload_n X dX3_worst_13 1 rfl rfl ?_
  refine g_getr X 0 (by omega) 0 (by decide) ku_X3 kv_X3 kf_X3_10 rfl lC_o_pipes dX3_worst_14 ?_
  refine g_mcallVi X (14 + 3 * t) (c_X2_soundOf l D cy ad ρ t 1 (by omega) (Or.inl rfl)) kl_X3_156 ⟨rfl, rfl, Nat.le_of_ble_eq_true rfl, Nat.le_of_ble_eq_true rfl⟩ (by omega) (lC_T (by omega)) kv_X2 rfl rfl (Nat.le_of_ble_eq_true rfl) dX3_worst_17 ⟨Nat.le_of_ble_eq_true rfl, Nat.le_of_ble_eq_true rfl⟩ (fun r_5 ρ_4 h_6 => ?_)
  obtain ⟨er_5, e9⟩ := h_6
  rw [e9, er_5]
  clear e9
  refine g_istore_n X [(3, .int _), (2, .int _), (0, .ref _), (1, .int _)] dX3_worst_20 rfl (by decide) rfl ?_
  refine g_iconst X (v := 0) dX3_worst_21 (by decide) ?_
  refine g_istore X [(4, .int _), (3, .int _), (2, .int _), (0, .ref _), (1, .int _)] dX3_worst_22 (by decide) rfl ?_
  refine g_ls (ls' := [(0, .ref _), (1, .int _), (2, .int _), (3, .int _), (4, .int _)]) [3, 4, 2, 1, 0] rfl ?_
  refine g_loop (fun _ => True) (fun _ => ρ) (fun i => [(0, .ref (ad 0)), (1, .int (nI t)), (2, .int (wsP ρ t i).2), (3, .int (wsP ρ t i).1), (4, .int (nI i))]) (fun _ => ((0 + 1) + 0)) (fun _ => ((0 + 6) + 0)) 12 0 trivial (by omega) rfl rfl rfl rfl (fun i h0i hi hIi ihi => ?_)
  refine g_iload X dX3_worst_24 4 rfl ?_
  refine g_bipush X (v := 12) dX3_worst_26 (by decide) ?_
  refine g_icmp_geN X i 12 66 (by omega) (by omega) dX3_worst_28 (by decide) (fun c_7 => ?_) (fun c_7 => ?_)
  · skip
    refine g_iload_n X dX3_worst_66 2 rfl rfl ?_
    exact g_xiret X hr hlk (by omega) (by omega) dX3_worst_67 (by unfold worF; rw [if_pos ibt, ext, show i = 12 by omega])
  · skip
    refine g_aload_n X dX3_worst_31 0 rfl rfl ?_
    refine g_getr X 0 (by omega) 2 (by decide) ku_X3 kv_X3 kf_X3_21 rfl lC_o_tunes dX3_worst_32 ?_
    refine g_iload_n X dX3_worst_35 1 rfl rfl ?_
    refine g_aaldN X 11 t 2 (by omega) lC_tunes rfl (by omega) (by decide) dX3_worst_36 ?_
    refine g_aload_n X dX3_worst_37 0 rfl rfl ?_
    refine g_getr X 0 (by omega) 0 (by decide) ku_X3 kv_X3 kf_X3_10 rfl lC_o_pipes dX3_worst_38 ?_
    refine g_iload X dX3_worst_41 4 rfl ?_
    refine g_mcallVi X (14 + 3 * t) (c_X2_soundSparing l D cy ad ρ t 1 _ (by omega) (Or.inl rfl)) kl_X3_176 ⟨rfl, rfl, Nat.le_of_ble_eq_true rfl, Nat.le_of_ble_eq_true rfl⟩ (by omega) (lC_T (by omega)) kv_X2 rfl rfl (Nat.le_of_ble_eq_true rfl) dX3_worst_43 ⟨Nat.le_of_ble_eq_true rfl, Nat.le_of_ble_eq_true rfl⟩ (fun r_9 ρ_8 h_10 => ?_)
    obtain ⟨er_9, e9⟩ := h_10
    rw [e9, er_9]
    clear e9
    refine g_istore X [(5, .int _), (0, .ref _), (1, .int _), (2, .int _), (3, .int _), (4, .int _)] dX3_worst_46 (by decide) rfl ?_
    refine g_iload X dX3_worst_48 0 rfl ?_
    refine g_iload_n X dX3_worst_50 4 rfl rfl ?_
    refine g_icmp_le X 60 dX3_worst_51 (by decide) (fun c_11 => ?_) (fun c_11 => ?_)
    · skip
      have cQ := c_11
      refine g_iincN X i 4 [(4, .int _), (5, .int _), (0, .ref _), (1, .int _), (2, .int _), (3, .int _)] 5 dX3_worst_60 rfl (by decide) rfl ?_
      refine g_goto X 24 dX3_worst_63 (by decide) ?_
      refine g_ls (ls' := [(0, .ref _), (1, .int _), (2, .int _), (3, .int _), (4, .int _)]) [2, 3, 4, 5, 0] rfl ?_
      exact g_eqv (ihi (by omega) trivial) (by simp only [wsP]; first | rw [if_pos cQ] | rw [if_neg cQ]) (rfl) rfl rfl
    · skip
      have cQ := c_11
      refine g_iload X dX3_worst_54 0 rfl ?_
      refine g_istore_n X [(3, .int _), (5, .int _), (0, .ref _), (1, .int _), (2, .int _), (4, .int _)] dX3_worst_56 rfl (by decide) rfl ?_
      refine g_iload X dX3_worst_57 5 rfl ?_
      refine g_istore_n X [(2, .int _), (3, .int _), (5, .int _), (0, .ref _), (1, .int _), (4, .int _)] dX3_worst_59 rfl (by decide) rfl ?_
      refine g_iincN X i 4 [(4, .int _), (2, .int _), (3, .int _), (5, .int _), (0, .ref _), (1, .int _)] 5 dX3_worst_60 rfl (by decide) rfl ?_
      refine g_goto X 24 dX3_worst_63 (by decide) ?_
      refine g_ls (ls' := [(0, .ref _), (1, .int _), (2, .int _), (3, .int _), (4, .int _)]) [4, 5, 1, 2, 0] rfl ?_
      exact g_eqv (ihi (by omega) trivial) (by simp only [wsP]; first | rw [if_pos cQ] | rw [if_neg cQ]) (rfl) rfl rfl

set_option maxHeartbeats 1000000 in
set_option maxRecDepth 100000 in
theorem c_X3_foresee (l : Launch) (hl0 : l.stackTraces = false) (D : va_G) (cy : Nat → ClassId) (ad : Nat → Nat) (ρ : Nat → Nat → Int32) (N T S d : Nat) (hI : Inv ρ N T S d) (x y : Int32) : gXI l yX3_foresee cX3_foresee 3 (some .int) { frames := 7, cells := 3, slots := 18, locals := 110 } D cy 48 ad (cC ad cy) [.ref (ad 0), .int x, .int y] ρ (fun r ρ1 => forF ρ x y = (0, r, ρ1)) (xq2 "java/lang/IllegalArgumentException" "java/lang/IndexOutOfBoundsException" (forF ρ x y).1) 3 18 := by
  refine gXI_of (ls := [(0, .ref (ad 0)), (1, .int x), (2, .int y)]) RX3 rfl (by decide +kernel) (Nat.le_of_ble_eq_true rfl) rfl ?_
  intro p e s m args below meth c A X hE hxt hr hlk
  obtain ⟨hT, hT6, hS, hS8, hd, hdN, hN, hTu, hSt, hPi, hZ, hHd⟩ := id hI
  have hwd : wdF ρ = nI (d % 7) := by unfold wdF; rw [hd, nI_clamp (by omega)]
  refine g_iload_n X dX3_foresee_0 1 rfl rfl ?_
  refine g_xcallSv X hE (c_X3_checkNights l hl0 D cy ad ρ _) kl_X3_166 ⟨rfl, rfl, Nat.le_of_ble_eq_true rfl, Nat.le_of_ble_eq_true rfl⟩ rfl rfl (Nat.le_of_ble_eq_true rfl) dX3_foresee_1 ⟨Nat.le_of_ble_eq_true rfl, Nat.le_of_ble_eq_true rfl⟩ (g_out hxt hlk (fun E h => Or.inl ⟨h.1, by unfold forF; rw [if_neg h.2]⟩) (by omega) (by omega)) (fun ρ_1 h_3 => ?_)
  obtain ⟨e9, ib9⟩ := h_3
  rw [e9]
  obtain ⟨nn, hnn, rfl⟩ := nig_N ib9
  have ibnn := ib9
  have exnn : ix (nI nn) = nn := nI_clamp (by omega)
  refine g_iload_n X dX3_foresee_4 2 rfl rfl ?_
  refine g_iconst X (v := 5) dX3_foresee_5 (by decide) ?_
  refine g_icmp_lt X 15 dX3_foresee_6 (by decide) (fun c_4 => ?_) (fun c_4 => ?_)
  · skip
    have cA := c_4
    exact g_throw X hE hl0 (names := ["java/lang/RuntimeException", "java/lang/Exception"]) (by decide +kernel) (by decide +kernel) kk_X3_67 ki_IOB kst_179 kh_IOB_71 kh_IOB_71g dX3_foresee_15 dX3_foresee_18 dX3_foresee_19 dX3_foresee_21 dX3_foresee_24 hxt ⟨Nat.le_of_ble_eq_true rfl, Nat.le_of_ble_eq_true rfl, Nat.le_of_ble_eq_true rfl, Nat.le_of_ble_eq_true rfl⟩ hlk (Or.inr ⟨rfl, by unfold forF; rw [if_pos ibnn, if_neg (fun q => q.1 cA)]⟩) (by omega) (by omega)
  · skip
    have cA := c_4
    refine g_iload_n X dX3_foresee_9 2 rfl rfl ?_
    refine g_bipush X (v := 7) dX3_foresee_10 (by decide) ?_
    refine g_icmp_le X 25 dX3_foresee_12 (by decide) (fun c_5 => ?_) (fun c_5 => ?_)
    · skip
      have ibw : ¬ y < 5 ∧ y ≤ 7 := ⟨cA, c_5⟩
      obtain ⟨k, hk, rfl⟩ := fs_N ibw
      have exk : ix (nI k) = k := nI_clamp (by omega)
      refine g_aload_n X dX3_foresee_25 0 rfl rfl ?_
      refine g_getr X 0 (by omega) 1 (by decide) ku_X3 kv_X3 kf_X3_16 rfl lC_o_trial dX3_foresee_26 ?_
      refine g_aload_n X dX3_foresee_29 0 rfl rfl ?_
      refine g_getr X 0 (by omega) 0 (by decide) ku_X3 kv_X3 kf_X3_10 rfl lC_o_pipes dX3_foresee_30 ?_
      refine g_mcallVv X 6 (c_X0_become l D cy ad ρ (fun j hj => (hPi j hj).2.2)) kl_X3_181 ⟨rfl, rfl, Nat.le_of_ble_eq_true rfl, Nat.le_of_ble_eq_true rfl⟩ (by omega) (lC_P (Or.inr rfl)) kv_X0 rfl rfl (Nat.le_of_ble_eq_true rfl) dX3_foresee_33 ⟨Nat.le_of_ble_eq_true rfl, Nat.le_of_ble_eq_true rfl⟩ (fun ρ_6 h_8 => ?_)
      rw [h_8]
      have hdb : becR ρ 12 0 7 = nI d := by simp [becR, hd]
      refine g_aload_n X dX3_foresee_36 0 rfl rfl ?_
      refine g_aload_n X dX3_foresee_37 0 rfl rfl ?_
      refine g_getr X 0 (by omega) 1 (by decide) ku_X3 kv_X3 kf_X3_16 rfl lC_o_trial dX3_foresee_38 ?_
      refine g_iload_n X dX3_foresee_41 1 rfl rfl ?_
      refine g_mcallVi X 0 (c_X3_passNights l D cy ad (becR ρ 12) 6 nn d (Or.inr rfl) hdb (by omega)) kl_X3_169 ⟨rfl, rfl, Nat.le_of_ble_eq_true rfl, Nat.le_of_ble_eq_true rfl⟩ (by omega) lC_O kv_X3 rfl rfl (Nat.le_of_ble_eq_true rfl) dX3_foresee_42 ⟨Nat.le_of_ble_eq_true rfl, Nat.le_of_ble_eq_true rfl⟩ (fun r_10 ρ_9 h_11 => ?_)
      obtain ⟨er9, eρ9⟩ := h_11
      rw [eρ9]
      refine g_pop X dX3_foresee_45 rfl ?_
      refine g_aload_n X dX3_foresee_46 0 rfl rfl ?_
      refine g_getr X 0 (by omega) 1 (by decide) ku_X3 kv_X3 kf_X3_16 rfl lC_o_trial dX3_foresee_47 ?_
      refine g_iload_n X dX3_foresee_50 2 rfl rfl ?_
      refine g_mcallVi X 6 (c_X0_sumUp l D cy ad (nsR (becR ρ 12) 6 d nn) 6 k (Or.inr rfl) (by omega)) kl_X3_184 ⟨rfl, rfl, Nat.le_of_ble_eq_true rfl, Nat.le_of_ble_eq_true rfl⟩ (by omega) (lC_P (Or.inr rfl)) kv_X0 rfl rfl (Nat.le_of_ble_eq_true rfl) dX3_foresee_51 ⟨Nat.le_of_ble_eq_true rfl, Nat.le_of_ble_eq_true rfl⟩ (fun r_13 ρ_12 h_14 => ?_)
      obtain ⟨er_13, e9⟩ := h_14
      rw [e9, er_13]
      clear e9
      exact g_xiret X hr hlk (by omega) (by omega) dX3_foresee_54 (by unfold forF; rw [if_pos ibnn, if_pos ibw, exnn, exk]; unfold forR; rw [hd, show ix (nI d) = d from nI_clamp (by omega)])
    · skip
      have cB := c_5
      exact g_throw X hE hl0 (names := ["java/lang/RuntimeException", "java/lang/Exception"]) (by decide +kernel) (by decide +kernel) kk_X3_67 ki_IOB kst_179 kh_IOB_71 kh_IOB_71g dX3_foresee_15 dX3_foresee_18 dX3_foresee_19 dX3_foresee_21 dX3_foresee_24 hxt ⟨Nat.le_of_ble_eq_true rfl, Nat.le_of_ble_eq_true rfl, Nat.le_of_ble_eq_true rfl, Nat.le_of_ble_eq_true rfl⟩ hlk (Or.inr ⟨rfl, by unfold forF; rw [if_pos ibnn, if_neg (fun q => cB q.2)]⟩) (by omega) (by omega)

set_option maxHeartbeats 1000000 in
set_option maxRecDepth 100000 in
theorem c_X3_lasts (l : Launch) (hl0 : l.stackTraces = false) (D : va_G) (cy : Nat → ClassId) (ad : Nat → Nat) (ρ : Nat → Nat → Int32) (N T S d : Nat) (hI : Inv ρ N T S d) (x : Int32) : gXI l yX3_lasts cX3_lasts 3 (some .int) { frames := 7, cells := 3, slots := 18, locals := 111 } D cy 48 ad (cC ad cy) [.ref (ad 0), .int x] ρ (fun r ρ1 => lasF ρ x = (0, r, ρ1)) (xq1 "java/lang/IndexOutOfBoundsException" (lasF ρ x).1) 3 18 := by
  refine gXI_of (ls := [(0, .ref (ad 0)), (1, .int x)]) RX3 rfl (by decide +kernel) (Nat.le_of_ble_eq_true rfl) rfl ?_
  intro p e s m args below meth c A X hE hxt hr hlk
  obtain ⟨hT, hT6, hS, hS8, hd, hdN, hN, hTu, hSt, hPi, hZ, hHd⟩ := id hI
  have hwd : wdF ρ = nI (d % 7) := by unfold wdF; rw [hd, nI_clamp (by omega)]
  refine g_aload_n X dX3_lasts_0 0 rfl rfl ?_
  refine g_iload_n X dX3_lasts_1 1 rfl rfl ?_
  refine g_xcallVv X hE 0 (c_X3_checkTune l hl0 D cy ad ρ _) kl_X3_51 ⟨rfl, rfl, Nat.le_of_ble_eq_true rfl, Nat.le_of_ble_eq_true rfl⟩ (by omega) lC_O kv_X3 rfl rfl (Nat.le_of_ble_eq_true rfl) dX3_lasts_2 ⟨Nat.le_of_ble_eq_true rfl, Nat.le_of_ble_eq_true rfl⟩ (g_out hxt hlk (fun E h => ⟨h.1, by unfold lasF; rw [if_neg h.2]⟩) (by omega) (by omega)) (fun ρ_1 h_3 => ?_)
  obtain ⟨e9, ib9⟩ := h_3
  rw [e9]
  obtain ⟨t, ht, rfl⟩ := inb_N hT (by omega) ib9
  have ibt := ib9
  have ext : ix (nI t) = t := nI_clamp (by omega)
  refine g_aload_n X dX3_lasts_5 0 rfl rfl ?_
  refine g_getr X 0 (by omega) 1 (by decide) ku_X3 kv_X3 kf_X3_16 rfl lC_o_trial dX3_lasts_6 ?_
  refine g_aload_n X dX3_lasts_9 0 rfl rfl ?_
  refine g_getr X 0 (by omega) 0 (by decide) ku_X3 kv_X3 kf_X3_10 rfl lC_o_pipes dX3_lasts_10 ?_
  refine g_mcallVv X 6 (c_X0_become l D cy ad ρ (fun j hj => (hPi j hj).2.2)) kl_X3_181 ⟨rfl, rfl, Nat.le_of_ble_eq_true rfl, Nat.le_of_ble_eq_true rfl⟩ (by omega) (lC_P (Or.inr rfl)) kv_X0 rfl rfl (Nat.le_of_ble_eq_true rfl) dX3_lasts_13 ⟨Nat.le_of_ble_eq_true rfl, Nat.le_of_ble_eq_true rfl⟩ (fun ρ_4 h_6 => ?_)
  rw [h_6]
  refine g_iconst X (v := 0) dX3_lasts_16 (by decide) ?_
  refine g_istore_n X [(2, .int _), (0, .ref _), (1, .int _)] dX3_lasts_17 rfl (by decide) rfl ?_
  refine g_ls (ls' := [(0, .ref _), (1, .int _), (2, .int _)]) [1, 2, 0] rfl ?_
  refine g_loop (fun i => ∀ j, j < i → ¬ sndC (trR ρ t j) 6 t (-1) < 30) (fun i => trR ρ t i) (fun i => [(0, .ref (ad 0)), (1, .int (nI t)), (2, .int (nI i))]) (fun _ => ((0 + 1) + 0)) (fun _ => ((0 + 6) + 0)) 99 0 (fun j h => absurd h (by omega)) (by omega) rfl rfl rfl rfl (fun i h0i hi hIi ihi => ?_)
  obtain ⟨ρa, eρa⟩ : ∃ ρz, ρz = trR ρ t i := ⟨_, rfl⟩
  rw [← eρa]
  refine g_iload_n X dX3_lasts_18 2 rfl rfl ?_
  refine g_bipush X (v := 99) dX3_lasts_19 (by decide) ?_
  refine g_icmp_geN X i 99 61 (by omega) (by omega) dX3_lasts_21 (by decide) (fun c_7 => ?_) (fun c_7 => ?_)
  · skip
    have cR := c_7
    refine g_iload_n X dX3_lasts_61 2 rfl rfl ?_
    exact g_xiret X hr hlk (by omega) (by omega) dX3_lasts_62 (by unfold lasF; rw [if_pos ibt, ext, laK_spec (K := i) hi hIi (Or.inl (by omega)), eρa])
  · skip
    refine g_aload_n X dX3_lasts_24 0 rfl rfl ?_
    refine g_getr X 0 (by omega) 2 (by decide) ku_X3 kv_X3 kf_X3_21 rfl lC_o_tunes dX3_lasts_25 ?_
    refine g_iload_n X dX3_lasts_28 1 rfl rfl ?_
    refine g_aaldN X 11 t 2 (by omega) lC_tunes rfl (by omega) (by decide) dX3_lasts_29 ?_
    refine g_aload_n X dX3_lasts_30 0 rfl rfl ?_
    refine g_getr X 0 (by omega) 1 (by decide) ku_X3 kv_X3 kf_X3_16 rfl lC_o_trial dX3_lasts_31 ?_
    refine g_mcallVi X (14 + 3 * t) (c_X2_soundOf l D cy ad ρa t 6 (by omega) (Or.inr rfl)) kl_X3_156 ⟨rfl, rfl, Nat.le_of_ble_eq_true rfl, Nat.le_of_ble_eq_true rfl⟩ (by omega) (lC_T (by omega)) kv_X2 rfl rfl (Nat.le_of_ble_eq_true rfl) dX3_lasts_34 ⟨Nat.le_of_ble_eq_true rfl, Nat.le_of_ble_eq_true rfl⟩ (fun r_9 ρ_8 h_10 => ?_)
    obtain ⟨er_9, e9⟩ := h_10
    rw [e9, er_9]
    clear e9
    refine g_bipush X (v := 30) dX3_lasts_37 (by decide) ?_
    refine g_icmp_lt X 61 dX3_lasts_39 (by decide) (fun c_11 => ?_) (fun c_11 => ?_)
    · skip
      have cQ := c_11
      refine g_iload_n X dX3_lasts_61 2 rfl rfl ?_
      exact g_xiret X hr hlk (by omega) (by omega) dX3_lasts_62 (by unfold lasF; rw [if_pos ibt, ext, laK_spec (K := i) hi hIi (Or.inr (by rw [← eρa]; exact cQ)), eρa])
    · skip
      have cQ := c_11
      refine g_aload_n X dX3_lasts_42 0 rfl rfl ?_
      refine g_getr X 0 (by omega) 2 (by decide) ku_X3 kv_X3 kf_X3_21 rfl lC_o_tunes dX3_lasts_43 ?_
      refine g_iload_n X dX3_lasts_46 1 rfl rfl ?_
      refine g_aaldN X 11 t 2 (by omega) lC_tunes rfl (by omega) (by decide) dX3_lasts_47 ?_
      refine g_aload_n X dX3_lasts_48 0 rfl rfl ?_
      refine g_getr X 0 (by omega) 1 (by decide) ku_X3 kv_X3 kf_X3_16 rfl lC_o_trial dX3_lasts_49 ?_
      refine g_mcallVv X (14 + 3 * t) (c_X2_wearDown l D cy ad ρa t 6 (by omega) (Or.inr rfl)) kl_X3_127 ⟨rfl, rfl, Nat.le_of_ble_eq_true rfl, Nat.le_of_ble_eq_true rfl⟩ (by omega) (lC_T (by omega)) kv_X2 rfl rfl (Nat.le_of_ble_eq_true rfl) dX3_lasts_52 ⟨Nat.le_of_ble_eq_true rfl, Nat.le_of_ble_eq_true rfl⟩ (fun ρ_12 h_14 => ?_)
      refine g_iincN X i 2 [(2, .int _), (0, .ref _), (1, .int _)] 2 dX3_lasts_55 rfl (by decide) rfl ?_
      refine g_goto X 18 dX3_lasts_58 (by decide) ?_
      refine g_ls (ls' := [(0, .ref _), (1, .int _), (2, .int _)]) [1, 2, 0] rfl ?_
      exact g_eqv (ihi (by omega) (fun j h => by
      rcases Nat.lt_or_ge j i with q | q
      · exact hIi j q
      · rw [show j = i by omega, ← eρa]; exact cQ)) (rfl) (by subst_vars; rfl) rfl rfl

set_option maxHeartbeats 1000000 in
set_option maxRecDepth 100000 in
theorem c_X3_mean (l : Launch) (D : va_G) (cy : Nat → ClassId) (ad : Nat → Nat) (ρ : Nat → Nat → Int32) (N T S d : Nat) (hI : Inv ρ N T S d) : gMD l yX3_mean cX3_mean 3 (some .double) { frames := 4, cells := 0, slots := 0, locals := 87 } D cy 48 ad (cC ad cy) [.ref (ad 0)] ρ (fun r ρ1 => r = meaF ρ ∧ ρ1 = ρ) 0 0 := by
  refine gMD_of (ls := [(0, .ref (ad 0))]) RX3 rfl (by decide +kernel) (Nat.le_of_ble_eq_true rfl) rfl ?_
  intro p e s m args below meth c A X hr hlk hnm
  obtain ⟨hT, hT6, hS, hS8, hd, hdN, hN, hTu, hSt, hPi, hZ, hHd⟩ := id hI
  have hwd : wdF ρ = nI (d % 7) := by unfold wdF; rw [hd, nI_clamp (by omega)]
  refine g_aload_n X dX3_mean_0 0 rfl rfl ?_
  refine g_geti X 0 (by omega) 5 (by decide) ku_X3 kv_X3 kf_X3_41 rfl lC_o_tuneCount dX3_mean_1 ?_
  rw [show ρ 0 5 = nI T from hT]
  refine g_if_ne X 9 dX3_mean_4 (by decide) (fun c_1 => ?_) (fun c_1 => ?_)
  · skip
    have cA := c_1
    refine g_iconst X (v := 0) dX3_mean_9 (by decide) ?_
    refine g_istore_n X [(1, .int _), (0, .ref _)] dX3_mean_10 rfl (by decide) rfl ?_
    refine g_iconst X (v := 0) dX3_mean_11 (by decide) ?_
    refine g_istore_n X [(2, .int _), (1, .int _), (0, .ref _)] dX3_mean_12 rfl (by decide) rfl ?_
    refine g_ls (ls' := [(0, .ref _), (1, .int _), (2, .int _)]) [2, 1, 0] rfl ?_
    refine g_loop (fun _ => True) (fun _ => ρ) (fun i => [(0, .ref (ad 0)), (1, .int (sumI (fun t => sndC ρ 1 t (-1)) i)), (2, .int (nI i))]) (fun _ => 0) (fun _ => 0) T 0 trivial (by omega) rfl rfl rfl rfl (fun i h0i hi hIi ihi => ?_)
    refine g_iload_n X dX3_mean_13 2 rfl rfl ?_
    refine g_aload_n X dX3_mean_14 0 rfl rfl ?_
    refine g_geti X 0 (by omega) 5 (by decide) ku_X3 kv_X3 kf_X3_41 rfl lC_o_tuneCount dX3_mean_15 ?_
    rw [show ρ 0 5 = nI T from hT]
    refine g_icmp_geN X i T 43 (by omega) (by omega) dX3_mean_18 (by decide) (fun c_2 => ?_) (fun c_2 => ?_)
    · skip
      have hiT : i = T := by omega
      rw [hiT]
      refine g_iload_n X dX3_mean_43 1 rfl rfl ?_
      refine g_i2d X dX3_mean_44 ?_
      refine g_aload_n X dX3_mean_45 0 rfl rfl ?_
      refine g_geti X 0 (by omega) 5 (by decide) ku_X3 kv_X3 kf_X3_41 rfl lC_o_tuneCount dX3_mean_46 ?_
      rw [show ρ 0 5 = nI T from hT]
      refine g_i2d X dX3_mean_49 ?_
      refine g_ddiv X dX3_mean_50 (Inv_mean hI cA) ?_
      exact g_dret X hr hlk (by omega) (by omega) dX3_mean_51 (⟨by unfold meaF; rw [if_neg (by rw [hT]; exact cA), hT, show ix (nI T) = T from nI_clamp (by omega)], rfl⟩)
    · skip
      refine g_iload_n X dX3_mean_21 1 rfl rfl ?_
      refine g_aload_n X dX3_mean_22 0 rfl rfl ?_
      refine g_getr X 0 (by omega) 2 (by decide) ku_X3 kv_X3 kf_X3_21 rfl lC_o_tunes dX3_mean_23 ?_
      refine g_iload_n X dX3_mean_26 2 rfl rfl ?_
      refine g_aaldN X 11 i 2 (by omega) lC_tunes rfl (by omega) (by decide) dX3_mean_27 ?_
      refine g_aload_n X dX3_mean_28 0 rfl rfl ?_
      refine g_getr X 0 (by omega) 0 (by decide) ku_X3 kv_X3 kf_X3_10 rfl lC_o_pipes dX3_mean_29 ?_
      refine g_mcallVi X (14 + 3 * i) (c_X2_soundOf l D cy ad ρ i 1 (by omega) (Or.inl rfl)) kl_X3_156 ⟨rfl, rfl, Nat.le_of_ble_eq_true rfl, Nat.le_of_ble_eq_true rfl⟩ (by omega) (lC_T (by omega)) kv_X2 rfl rfl (Nat.le_of_ble_eq_true rfl) dX3_mean_32 ⟨Nat.le_of_ble_eq_true rfl, Nat.le_of_ble_eq_true rfl⟩ (fun r_4 ρ_3 h_5 => ?_)
      obtain ⟨er_4, e9⟩ := h_5
      rw [e9, er_4]
      clear e9
      refine g_iadd X dX3_mean_35 ?_
      refine g_istore_n X [(1, .int _), (0, .ref _), (2, .int _)] dX3_mean_36 rfl (by decide) rfl ?_
      refine g_iincN X i 2 [(2, .int _), (1, .int _), (0, .ref _)] 2 dX3_mean_37 rfl (by decide) rfl ?_
      refine g_goto X 13 dX3_mean_40 (by decide) ?_
      refine g_ls (ls' := [(0, .ref _), (1, .int _), (2, .int _)]) [2, 1, 0] rfl ?_
      exact g_eqv (ihi (by omega) trivial) (rfl) (rfl) rfl rfl
  · skip
    have cA := c_1
    refine g_dconst0 X dX3_mean_7 ?_
    exact g_dret X hr hlk (by omega) (by omega) dX3_mean_8 (⟨by unfold meaF; rw [if_pos (hT.trans cA)], rfl⟩)

set_option maxHeartbeats 1000000 in
set_option maxRecDepth 100000 in
theorem c_X3_digest (l : Launch) (D : va_G) (cy : Nat → ClassId) (ad : Nat → Nat) (ρ : Nat → Nat → Int32) (N T S d : Nat) (hI : Inv ρ N T S d) : gML l yX3_digest cX3_digest 5 (some .long) { frames := 6, cells := 0, slots := 0, locals := 135 } D cy 48 ad (cC ad cy) [.ref (ad 0)] ρ (fun r ρ1 => r = digF ρ ∧ ρ1 = ρ) 0 0 := by
  refine gML_of (ls := [(0, .ref (ad 0))]) RX3 rfl (by decide +kernel) (Nat.le_of_ble_eq_true rfl) rfl ?_
  intro p e s m args below meth c A X hr hlk hnm
  obtain ⟨hT, hT6, hS, hS8, hd, hdN, hN, hTu, hSt, hPi, hZ, hHd⟩ := id hI
  have hwd : wdF ρ = nI (d % 7) := by unfold wdF; rw [hd, nI_clamp (by omega)]
  refine g_ldc2 X kL_X3_187 dX3_digest_0 ?_
  refine g_lstore_n X [(1, .long _), (0, .ref _)] dX3_digest_3 rfl (by decide) rfl ?_
  refine g_iconst X (v := 0) dX3_digest_4 (by decide) ?_
  refine g_istore_n X [(3, .int _), (1, .long _), (0, .ref _)] dX3_digest_5 rfl (by decide) rfl ?_
  refine g_ls (ls' := [(0, .ref _), (1, .long _), (3, .int _)]) [2, 1, 0] rfl ?_
  refine g_loop (fun _ => True) (fun _ => ρ) (fun i => [(0, .ref (ad 0)), (1, .long (mxs (countF ρ) i 1097)), (3, .int (nI i))]) (fun _ => 0) (fun _ => 0) 9 0 trivial (by omega) rfl rfl rfl rfl (fun i h0i hi hIi ihi => ?_)
  refine g_iload_n X dX3_digest_6 2 rfl rfl ?_
  refine g_bipush X (v := 9) dX3_digest_7 (by decide) ?_
  refine g_icmp_geN X i 9 28 (by omega) (by omega) dX3_digest_9 (by decide) (fun c_1 => ?_) (fun c_1 => ?_)
  · skip
    refine g_iconst X (v := 0) dX3_digest_28 (by decide) ?_
    refine g_istore_n X [(3, .int _), (0, .ref _), (1, .long _)] dX3_digest_29 rfl (by decide) rfl ?_
    obtain rfl : i = 9 := by omega
    refine g_ls (ls' := [(0, .ref _), (1, .long _), (3, .int _)]) [1, 2, 0] rfl ?_
    refine g_loop (fun _ => True) (fun _ => ρ) (fun u => [(0, .ref (ad 0)), (1, .long (fold1 (fun i dd => mxs (fun w => tellF ρ 1 i w) 5 dd) u (mxs (countF ρ) 9 1097))), (3, .int (nI u))]) (fun _ => (0)) (fun _ => (0)) 12 0 trivial (by omega) rfl rfl rfl rfl (fun u h0u hu hIu ihu => ?_)
    refine g_iload_n X dX3_digest_30 2 rfl rfl ?_
    refine g_bipush X (v := 12) dX3_digest_31 (by decide) ?_
    refine g_icmp_geN X u 12 72 (by omega) (by omega) dX3_digest_33 (by decide) (fun c_2 => ?_) (fun c_2 => ?_)
    · skip
      refine g_iconst X (v := 0) dX3_digest_72 (by decide) ?_
      refine g_istore_n X [(3, .int _), (0, .ref _), (1, .long _)] dX3_digest_73 rfl (by decide) rfl ?_
      obtain rfl : u = 12 := by omega
      refine g_ls (ls' := [(0, .ref _), (1, .long _), (3, .int _)]) [1, 2, 0] rfl ?_
      refine g_loop (fun _ => True) (fun _ => ρ) (fun k => [(0, .ref (ad 0)), (1, .long (mxs (fun j => ρ 13 j) k (fold1 (fun i dd => mxs (fun w => tellF ρ 1 i w) 5 dd) 12 (mxs (countF ρ) 9 1097)))), (3, .int (nI k))]) (fun _ => ((0))) (fun _ => ((0))) 7 0 trivial (by omega) rfl rfl rfl rfl (fun k h0k hk hIk ihk => ?_)
      refine g_iload_n X dX3_digest_74 2 rfl rfl ?_
      refine g_bipush X (v := 7) dX3_digest_75 (by decide) ?_
      refine g_icmp_geN X k 7 97 (by omega) (by omega) dX3_digest_77 (by decide) (fun c_3 => ?_) (fun c_3 => ?_)
      · skip
        refine g_iconst X (v := 0) dX3_digest_97 (by decide) ?_
        refine g_istore_n X [(3, .int _), (0, .ref _), (1, .long _)] dX3_digest_98 rfl (by decide) rfl ?_
        obtain rfl : k = 7 := by omega
        refine g_ls (ls' := [(0, .ref _), (1, .long _), (3, .int _)]) [1, 2, 0] rfl ?_
        refine g_loop (fun _ => True) (fun _ => ρ) (fun t => [(0, .ref (ad 0)), (1, .long (fold1 (mtF ρ) t (mxs (fun j => ρ 13 j) 7 (fold1 (fun i dd => mxs (fun w => tellF ρ 1 i w) 5 dd) 12 (mxs (countF ρ) 9 1097))))), (3, .int (nI t))]) (fun _ => (((0)))) (fun _ => (((0)))) T 0 trivial (by omega) rfl rfl rfl rfl (fun t h0t ht hIt iht => ?_)
        refine g_iload_n X dX3_digest_99 2 rfl rfl ?_
        refine g_aload_n X dX3_digest_100 0 rfl rfl ?_
        refine g_geti X 0 (by omega) 5 (by decide) ku_X3 kv_X3 kf_X3_41 rfl lC_o_tuneCount dX3_digest_101 ?_
        rw [show ρ 0 5 = nI T from hT]
        refine g_icmp_geN X t T 125 (by omega) (by omega) dX3_digest_104 (by decide) (fun c_4 => ?_) (fun c_4 => ?_)
        · skip
          refine g_iconst X (v := 0) dX3_digest_125 (by decide) ?_
          refine g_istore_n X [(3, .int _), (0, .ref _), (1, .long _)] dX3_digest_126 rfl (by decide) rfl ?_
          obtain rfl : t = T := by omega
          refine g_ls (ls' := [(0, .ref _), (1, .long _), (3, .int _)]) [1, 2, 0] rfl ?_
          refine g_loop (fun _ => True) (fun _ => ρ) (fun z => [(0, .ref (ad 0)), (1, .long (fold1 (msF ρ) z (fold1 (mtF ρ) t (mxs (fun j => ρ 13 j) 7 (fold1 (fun i dd => mxs (fun w => tellF ρ 1 i w) 5 dd) 12 (mxs (countF ρ) 9 1097)))))), (3, .int (nI z))]) (fun _ => ((((0))))) (fun _ => ((((0))))) S 0 trivial (by omega) rfl rfl rfl rfl (fun z h0z hz hIz ihz => ?_)
          refine g_iload_n X dX3_digest_127 2 rfl rfl ?_
          refine g_aload_n X dX3_digest_128 0 rfl rfl ?_
          refine g_geti X 0 (by omega) 6 (by decide) ku_X3 kv_X3 kf_X3_83 rfl lC_o_streetCount dX3_digest_129 ?_
          rw [show ρ 0 6 = nI S from hS]
          refine g_icmp_geN X z S 148 (by omega) (by omega) dX3_digest_132 (by decide) (fun c_5 => ?_) (fun c_5 => ?_)
          · skip
            refine g_lload_n X dX3_digest_148 1 rfl rfl ?_
            exact g_lret X hr hlk (by omega) (by omega) dX3_digest_149 (⟨by unfold digF; rw [hT, hS, show ix (nI t) = t from nI_clamp (by omega), show ix (nI S) = S from nI_clamp (by omega), show z = S by omega], rfl⟩)
          · skip
            refine g_aload_n X dX3_digest_135 0 rfl rfl ?_
            refine g_lload_n X dX3_digest_136 1 rfl rfl ?_
            refine g_iload_n X dX3_digest_137 2 rfl rfl ?_
            refine g_mcallVl X 0 (c_X3_mixStreet l D cy ad ρ z _ _ _ (by omega) hT hT6 hd (by omega) (fun t ht => Inv_pay hI (by omega) ht)) kl_X3_197 ⟨rfl, rfl, Nat.le_of_ble_eq_true rfl, Nat.le_of_ble_eq_true rfl⟩ (by omega) lC_O kv_X3 rfl rfl (Nat.le_of_ble_eq_true rfl) dX3_digest_138 ⟨Nat.le_of_ble_eq_true rfl, Nat.le_of_ble_eq_true rfl⟩ (fun r_7 ρ_6 h_8 => ?_)
            obtain ⟨er_7, e9⟩ := h_8
            rw [e9, er_7]
            clear e9
            refine g_lstore_n X [(1, .long _), (0, .ref _), (3, .int _)] dX3_digest_141 rfl (by decide) rfl ?_
            refine g_iincN X z 3 [(3, .int _), (1, .long _), (0, .ref _)] 2 dX3_digest_142 rfl (by decide) rfl ?_
            refine g_goto X 127 dX3_digest_145 (by decide) ?_
            refine g_ls (ls' := [(0, .ref _), (1, .long _), (3, .int _)]) [2, 1, 0] rfl ?_
            exact g_eqv (ihz (by omega) trivial) (rfl) (rfl) rfl rfl
        · skip
          obtain ⟨L, hL, hL16, hLn, hLc⟩ := hTu t (by omega)
          refine g_aload_n X dX3_digest_107 0 rfl rfl ?_
          refine g_lload_n X dX3_digest_108 1 rfl rfl ?_
          refine g_aload_n X dX3_digest_109 0 rfl rfl ?_
          refine g_getr X 0 (by omega) 2 (by decide) ku_X3 kv_X3 kf_X3_21 rfl lC_o_tunes dX3_digest_110 ?_
          refine g_iload_n X dX3_digest_113 2 rfl rfl ?_
          refine g_aaldN X 11 t 2 (by omega) lC_tunes rfl (by omega) (by decide) dX3_digest_114 ?_
          refine g_mcallVl X 0 (c_X3_mixTune l D cy ad ρ t _ _ (by omega) hL hL16) kl_X3_193 ⟨rfl, rfl, Nat.le_of_ble_eq_true rfl, Nat.le_of_ble_eq_true rfl⟩ (by omega) lC_O kv_X3 rfl rfl (Nat.le_of_ble_eq_true rfl) dX3_digest_115 ⟨Nat.le_of_ble_eq_true rfl, Nat.le_of_ble_eq_true rfl⟩ (fun r_10 ρ_9 h_11 => ?_)
          obtain ⟨er_10, e9⟩ := h_11
          rw [e9, er_10]
          clear e9
          refine g_lstore_n X [(1, .long _), (0, .ref _), (3, .int _)] dX3_digest_118 rfl (by decide) rfl ?_
          refine g_iincN X t 3 [(3, .int _), (1, .long _), (0, .ref _)] 2 dX3_digest_119 rfl (by decide) rfl ?_
          refine g_goto X 99 dX3_digest_122 (by decide) ?_
          refine g_ls (ls' := [(0, .ref _), (1, .long _), (3, .int _)]) [2, 1, 0] rfl ?_
          exact g_eqv (iht (by omega) trivial) (rfl) (rfl) rfl rfl
      · skip
        refine g_lload_n X dX3_digest_80 1 rfl rfl ?_
        refine g_aload_n X dX3_digest_81 0 rfl rfl ?_
        refine g_getr X 0 (by omega) 4 (by decide) ku_X3 kv_X3 kf_X3_33 rfl lC_o_damp dX3_digest_82 ?_
        refine g_iload_n X dX3_digest_85 2 rfl rfl ?_
        refine g_ialdN X 13 k (by omega) lC_damp (by omega) (by decide) dX3_digest_86 ?_
        refine g_mcallSl X (c_X3_mix l D cy ad ρ _ _) kl_X3_189 ⟨rfl, rfl, Nat.le_of_ble_eq_true rfl, Nat.le_of_ble_eq_true rfl⟩ rfl rfl (Nat.le_of_ble_eq_true rfl) dX3_digest_87 ⟨Nat.le_of_ble_eq_true rfl, Nat.le_of_ble_eq_true rfl⟩ (fun r_13 ρ_12 h_14 => ?_)
        obtain ⟨er_13, e9⟩ := h_14
        rw [e9, er_13]
        clear e9
        refine g_lstore_n X [(1, .long _), (0, .ref _), (3, .int _)] dX3_digest_90 rfl (by decide) rfl ?_
        refine g_iincN X k 3 [(3, .int _), (1, .long _), (0, .ref _)] 2 dX3_digest_91 rfl (by decide) rfl ?_
        refine g_goto X 74 dX3_digest_94 (by decide) ?_
        refine g_ls (ls' := [(0, .ref _), (1, .long _), (3, .int _)]) [2, 1, 0] rfl ?_
        exact g_eqv (ihk (by omega) trivial) (rfl) (rfl) rfl rfl
    · skip
      refine g_iconst X (v := 0) dX3_digest_36 (by decide) ?_
      refine g_istore X [(4, .int _), (0, .ref _), (1, .long _), (3, .int _)] dX3_digest_37 (by decide) rfl ?_
      refine g_ls (ls' := [(0, .ref _), (1, .long _), (3, .int _), (4, .int _)]) [1, 2, 3, 0] rfl ?_
      refine g_loop (fun _ => True) (fun _ => ρ) (fun v => [(0, .ref (ad 0)), (1, .long (mxs (fun w => tellF ρ 1 u w) v (fold1 (fun i dd => mxs (fun w => tellF ρ 1 i w) 5 dd) u (mxs (countF ρ) 9 1097)))), (3, .int (nI u)), (4, .int (nI v))]) (fun _ => ((0))) (fun _ => ((0))) 5 0 trivial (by omega) rfl rfl rfl rfl (fun v h0v hv hIv ihv => ?_)
      refine g_iload X dX3_digest_39 3 rfl ?_
      refine g_iconst X (v := 5) dX3_digest_41 (by decide) ?_
      refine g_icmp_geN X v 5 66 (by omega) (by omega) dX3_digest_42 (by decide) (fun c_15 => ?_) (fun c_15 => ?_)
      · skip
        obtain rfl : v = 5 := by omega
        refine g_iincN X u 3 [(3, .int _), (0, .ref _), (1, .long _), (4, .int _)] 2 dX3_digest_66 rfl (by decide) rfl ?_
        refine g_goto X 30 dX3_digest_69 (by decide) ?_
        refine g_ls (ls' := [(0, .ref _), (1, .long _), (3, .int _)]) [1, 2, 0] rfl ?_
        exact g_eqv (ihu (by omega) trivial) (rfl) (rfl) rfl rfl
      · skip
        refine g_lload_n X dX3_digest_45 1 rfl rfl ?_
        refine g_aload_n X dX3_digest_46 0 rfl rfl ?_
        refine g_getr X 0 (by omega) 0 (by decide) ku_X3 kv_X3 kf_X3_10 rfl lC_o_pipes dX3_digest_47 ?_
        refine g_iload_n X dX3_digest_50 2 rfl rfl ?_
        refine g_iload X dX3_digest_51 3 rfl ?_
        refine g_mcallVi X 1 (c_X0_tell l D cy ad ρ 1 u v (Or.inl rfl) (by omega) (by omega)) kl_X3_153 ⟨rfl, rfl, Nat.le_of_ble_eq_true rfl, Nat.le_of_ble_eq_true rfl⟩ (by omega) (lC_P (Or.inl rfl)) kv_X0 rfl rfl (Nat.le_of_ble_eq_true rfl) dX3_digest_53 ⟨Nat.le_of_ble_eq_true rfl, Nat.le_of_ble_eq_true rfl⟩ (fun r_17 ρ_16 h_18 => ?_)
        obtain ⟨er_17, e9⟩ := h_18
        rw [e9, er_17]
        clear e9
        refine g_mcallSl X (c_X3_mix l D cy ad ρ _ _) kl_X3_189 ⟨rfl, rfl, Nat.le_of_ble_eq_true rfl, Nat.le_of_ble_eq_true rfl⟩ rfl rfl (Nat.le_of_ble_eq_true rfl) dX3_digest_56 ⟨Nat.le_of_ble_eq_true rfl, Nat.le_of_ble_eq_true rfl⟩ (fun r_20 ρ_19 h_21 => ?_)
        obtain ⟨er_20, e9⟩ := h_21
        rw [e9, er_20]
        clear e9
        refine g_lstore_n X [(1, .long _), (0, .ref _), (3, .int _), (4, .int _)] dX3_digest_59 rfl (by decide) rfl ?_
        refine g_iincN X v 4 [(4, .int _), (1, .long _), (0, .ref _), (3, .int _)] 3 dX3_digest_60 rfl (by decide) rfl ?_
        refine g_goto X 39 dX3_digest_63 (by decide) ?_
        refine g_ls (ls' := [(0, .ref _), (1, .long _), (3, .int _), (4, .int _)]) [2, 1, 3, 0] rfl ?_
        exact g_eqv (ihv (by omega) trivial) (rfl) (rfl) rfl rfl
  · skip
    refine g_lload_n X dX3_digest_12 1 rfl rfl ?_
    refine g_aload_n X dX3_digest_13 0 rfl rfl ?_
    refine g_iload_n X dX3_digest_14 2 rfl rfl ?_
    refine g_mcallVi X 0 (c_X3_countNow l D cy ad ρ i d (by omega) hd (by omega)) kl_X3_163 ⟨rfl, rfl, Nat.le_of_ble_eq_true rfl, Nat.le_of_ble_eq_true rfl⟩ (by omega) lC_O kv_X3 rfl rfl (Nat.le_of_ble_eq_true rfl) dX3_digest_15 ⟨Nat.le_of_ble_eq_true rfl, Nat.le_of_ble_eq_true rfl⟩ (fun r_23 ρ_22 h_24 => ?_)
    obtain ⟨er_23, e9⟩ := h_24
    rw [e9, er_23]
    clear e9
    refine g_mcallSl X (c_X3_mix l D cy ad ρ _ _) kl_X3_189 ⟨rfl, rfl, Nat.le_of_ble_eq_true rfl, Nat.le_of_ble_eq_true rfl⟩ rfl rfl (Nat.le_of_ble_eq_true rfl) dX3_digest_18 ⟨Nat.le_of_ble_eq_true rfl, Nat.le_of_ble_eq_true rfl⟩ (fun r_26 ρ_25 h_27 => ?_)
    obtain ⟨er_26, e9⟩ := h_27
    rw [e9, er_26]
    clear e9
    refine g_lstore_n X [(1, .long _), (0, .ref _), (3, .int _)] dX3_digest_21 rfl (by decide) rfl ?_
    refine g_iincN X i 3 [(3, .int _), (1, .long _), (0, .ref _)] 2 dX3_digest_22 rfl (by decide) rfl ?_
    refine g_goto X 6 dX3_digest_25 (by decide) ?_
    refine g_ls (ls' := [(0, .ref _), (1, .long _), (3, .int _)]) [2, 1, 0] rfl ?_
    exact g_eqv (ihi (by omega) trivial) (rfl) (rfl) rfl rfl
end
section
/-! Worlds with one more row at their end -/
def xAd (ad : Nat → Nat) (n q : Nat) : Nat → Nat := fun k => if k = n then q else ad k
def xCz (cz : Nat → (Nat → Int32) → va_E) (n : Nat) (cA : ClassId) (len : Nat) : Nat → (Nat → Int32) → va_E := fun k r => if k = n then .inl (cA, len, .inl r) else cz k r
def xRo (ρ : gSt) (n : Nat) : gSt := fun k => if k = n then (fun _ => 0) else ρ k
section XW
variable {p : Program} {l : Launch} {e : Env} {R : Room} {s : State} {m : MethodId} {args : Array Value} {below : List Frame} {meth : Method} {c : Code} {Q : State → Prop}
variable {cc : ByteArray} {nL : Nat} {Ts : List Cond} {own : String} {D : va_G} {cy : Nat → ClassId} {A : Nat → Prop}
variable {n : Nat} {ad : Nat → Nat} {cz : Nat → (Nat → Int32) → va_E} {ρ : gSt} {cells slots pc : Nat} {ls ls' : List (Nat × Value)} {st st0 rest : List Value}
variable {k ci j k2 len lenx q : Nat} {cA cB : ClassId}
theorem gFI_x (h : gFI cz k ci j) (hk : k ≠ n) : gFI (xCz cz n cA lenx) k ci j := fun r => by
  obtain ⟨fs, h1, h2, h3, h4⟩ := h r
  refine ⟨fs, by simp only [xCz]; rw [if_neg hk]; exact h1, h2, h3, fun v => by simp only [xCz]; rw [if_neg hk]; exact h4 v⟩
theorem gFR_x (h : gFR cz ad k ci j k2) (hk : k ≠ n) (hk2 : k2 ≠ n) : gFR (xCz cz n cA lenx) (xAd ad n q) k ci j k2 := fun r => by
  obtain ⟨fs, h1, h2⟩ := h r
  exact ⟨fs, by simp only [xCz]; rw [if_neg hk]; exact h1, by simp only [xAd]; rw [if_neg hk2]; exact h2⟩
theorem gOb_x (h : gOb cz k ci) (hk : k ≠ n) : gOb (xCz cz n cA lenx) k ci := fun r => by
  obtain ⟨fs, h1⟩ := h r
  exact ⟨fs, by simp only [xCz]; rw [if_neg hk]; exact h1⟩
theorem gAI_x (h : gAI cz cB k len) (hk : k ≠ n) : gAI (xCz cz n cA lenx) cB k len := fun r => by simp only [xCz]; rw [if_neg hk]; exact h r
theorem gAI_n : gAI (xCz cz n cA lenx) cA n lenx := fun r => by simp [xCz]
theorem gSub_x : gSub (n + 1) (xAd ad n q) (xCz cz n cA lenx) 0 n ad cz := ⟨by omega, fun j hj => by
  rw [Nat.zero_add]
  exact ⟨by simp only [xAd]; rw [if_neg (by omega)], fun r => by simp only [xCz]; rw [if_neg (by omega)]⟩⟩
theorem gWl_x : gWl (n + 1) (xAd ad n q) (xCz cz n cA lenx) (xRo ρ n) = gWl n ad cz ρ ++ [(q, .inl (cA, lenx, .inl (fun _ => 0)))] := by
  simp only [gWl, List.range_succ, List.map_append, List.map_cons, List.map_nil]
  congr 1
  · apply List.map_congr_left
    intro k hk
    have : k ≠ n := by have := List.mem_range.mp hk; omega
    simp only [xAd, xCz, xRo]
    rw [if_neg this, if_neg this, if_neg this]
  · simp [xAd, xCz, xRo]
theorem g_newi (X : gX p m c cc nL s args Ts own D cy A) (len : Nat) (hlen : len < 2 ^ 20) (hw : Cond.arrayClass .int ∈ wAll) (hroom : cells + 1 ≤ R.cells ∧ slots + len ≤ R.slots) (hd : decode cc pc = .ok (.newarray .int, 2)) (kk : ∀ q, GW p l e R s m args below meth c Q nL D A (n + 1) (xAd ad n q) (xCz cz n (cy 0) len) (xRo ρ n) (cells + 1) (slots + len) (pc + 2) ls (.ref (xAd ad n q n) :: st)) : GW p l e R s m args below meth c Q nL D A n ad cz ρ cells slots pc ls (.int (nI len) :: st) := fun H locs la hP hD hS hl => by
  refine va_newa (atype := .int) (a0 := (len, .inl (fun _ => 0))) X.1.1 X.1.2.1 (X.1.2.2.2.2 _ (X.2.2.2.1 _ hw)) rfl X.2.1 hP hD hS X.2.2.1 (fun _ => rfl) (fun h => nI_pos (show len < 2 ^ 31 by omega) h) (nI_clamp (by omega)) (by show len * 4 ≤ _; omega) hroom.1 hroom.2 hd (fun q cA H1 hK1 hP1 hD1 hS1 => ?_)
  have e0 : cA = cy 0 := by
    have h1 := (hK1.2 5 (cA, .int) rfl).2
    have h2 := (X.2.1.2 0 (cy 0, .int) rfl).2
    exact Option.some.inj (h1.symm.trans h2)
  subst e0
  rw [← gWl_x] at hP1 hD1
  have e9 : xAd ad n q n = q := by simp [xAd]
  have := kk q H1 locs la hP1 hD1 hS1 hl
  rw [e9] at this
  exact this
theorem g_newz (X : gX p m c cc nL s args Ts own D cy A) (len : Nat) (hlen : len < 2 ^ 20) (hw : Cond.arrayClass .boolean ∈ wAll) (hroom : cells + 1 ≤ R.cells ∧ slots + len ≤ R.slots) (hd : decode cc pc = .ok (.newarray .boolean, 2)) (kk : ∀ q, GW p l e R s m args below meth c Q nL D A (n + 1) (xAd ad n q) (xCz cz n (cy 1) len) (xRo ρ n) (cells + 1) (slots + len) (pc + 2) ls (.ref (xAd ad n q n) :: st)) : GW p l e R s m args below meth c Q nL D A n ad cz ρ cells slots pc ls (.int (nI len) :: st) := fun H locs la hP hD hS hl => by
  refine va_newa (atype := .boolean) (a0 := (len, .inl (fun _ => 0))) X.1.1 X.1.2.1 (X.1.2.2.2.2 _ (X.2.2.2.1 _ hw)) rfl X.2.1 hP hD hS X.2.2.1 (fun _ => rfl) (fun h => nI_pos (show len < 2 ^ 31 by omega) h) (nI_clamp (by omega)) (by show len * 1 ≤ _; omega) hroom.1 hroom.2 hd (fun q cA H1 hK1 hP1 hD1 hS1 => ?_)
  have e0 : cA = cy 1 := by
    have h1 := (hK1.2 5 (cA, .boolean) rfl).2
    have h2 := (X.2.1.2 1 (cy 1, .boolean) rfl).2
    exact Option.some.inj (h1.symm.trans h2)
  subst e0
  rw [← gWl_x] at hP1 hD1
  have e9 : xAd ad n q n = q := by simp [xAd]
  have := kk q H1 locs la hP1 hD1 hS1 hl
  rw [e9] at this
  exact this
variable {y : MethodName} {rm : Room} {bytes : ByteArray} {maxL nA index mc ms : Nat} {ret : Option FieldType} {C : String} {T : u_T} {N : Nat} {As : List Value}
variable {n' : Nat} {ad' : Nat → Nat} {cz' : Nat → (Nat → Int32) → va_E}
/-- a call that changes nothing, on some of the cells -/
theorem g_pureVi (X : gX p m c cc nL s args Ts own D cy A) {post : Int32 → gSt → Prop} (σ : gSt) (hσ : ∀ j, j < n' → cz' j (ρ (0 + j)) = cz' j (σ j)) (k0 : Nat) (hM : gMI l y bytes maxL ret rm D cy n' ad' cz' (.ref (ad k0) :: As) σ post mc ms) (hL : gLkV own index C y bytes maxL ret nA) (hR : rm.cells = mc ∧ rm.slots = ms ∧ rm.frames + 1 ≤ R.frames ∧ 8 + (maxL + 11) + rm.locals ≤ R.locals) (hs : gSub n ad cz 0 n' ad' cz') (hk0 : k0 < n) (hO : gOb cz k0 ci) (hc : vwCl[ci]? = some (C, T, N)) (hn : As.length = nA) (hst : st0 = As.reverse ++ .ref (ad k0) :: rest) (hcat : (rest.map fun v => v.category).sum ≤ 8) (hd : decode cc pc = .ok (.invokevirtual index, 3)) (hroom : cells + mc ≤ R.cells ∧ slots + ms ≤ R.slots) (hpure : ∀ r ρ1, post r ρ1 → ρ1 = σ) (kk : ∀ r : Int32, post r σ → GW p l e R s m args below meth c Q nL D A n ad cz ρ (cells + mc) (slots + ms) (pc + 3) ls (.int r :: rest)) : GW p l e R s m args below meth c Q nL D A n ad cz ρ cells slots pc ls st0 := by
  intro H locs la hP hD hS hl
  have hfree := gA_sub hs hD hS X.2.2.1
  obtain ⟨fs9, hfs9⟩ := hO (ρ k0)
  exact va_calli (va_runV X.1 (hM H.size) (gCwV X.1.2.2.2.2 X.2.2.2.1 hL hR) ⟨gPc_blind, va_recv X.2.1 hP hc ((gWl_get hk0).trans (by rw [hfs9])), fun U hU hW => ⟨rfl, by rw [hU], by rw [hU]; exact gP_congr hσ (gP_sub hs hP), va_K.moved hW.alike X.2.1, gInj_sub hs (gD_inj hD), gNst_warm hW X.2.2.2.2⟩⟩ rfl hn hl.1 hst (lv_room hcat) hd hroom) hS (fun q _ h => hfree q h) hfree (fun r ρ1 t H1 locs1 ht hvm hw hB hz1 hk1 hS1 => by
    have e1 := hpure r ρ1 hw
    subst e1
    have hB1 : va_P D vwCl (gWl n' ad' cz' ρ1) H1 := by rw [← ht]; exact hB
    refine kk r hw H1 locs1 la (gP_congr (fun k hk => ?_) (gP_back hs (gD_inj hD) hP hk1 hB1)) (gD_of (gD_inj hD) (fun _ hk => gD_in hD hk)) hS1 hl
    simp only [gBack]
    by_cases hk9 : 0 ≤ k ∧ k < 0 + n'
    · rw [if_pos hk9, Nat.sub_zero]
      have h1 := hσ k (by omega)
      have h2 := (hs.2 k (by omega)).2
      rw [Nat.zero_add] at h1 h2
      rw [← h2, ← h2, h1]
    · rw [if_neg hk9])
end XW
end
section
/-! Every call keeps the invariant -/
def gKp (ρ : gSt) (N : Nat) : Prop := ∃ T S d : Nat, Inv ρ N T S d
section KP
variable {ρ σ : gSt} {N T S d T' S' d' : Nat}
theorem str_cg {z : Nat} (h : strI ρ N z) (h1 : σ (32 + 2 * z) 1 = ρ (32 + 2 * z) 1) (h2 : ∀ t, t < 6 → σ (33 + 2 * z) t = ρ (33 + 2 * z) t) : strI σ (N + 1) z := by
  obtain ⟨⟨u, hu, eu⟩, hh⟩ := h
  refine ⟨⟨u, hu, h1.trans eu⟩, fun t ht => ?_⟩
  obtain ⟨q, hq, e⟩ := hh t ht
  exact ⟨q, by omega, (h2 t ht).trans e⟩
theorem Inv_mk (hI : Inv ρ N T S d) (hN : N < 600) (h5 : σ 0 5 = nI T') (hT6 : T' ≤ 6) (h6 : σ 0 6 = nI S') (hS8 : S' ≤ 8) (h7 : σ 0 7 = nI d') (hd' : d' ≤ d + 60) (hTu : ∀ t, t < 6 → tunI σ t) (hSt : ∀ z, z < 8 → strI σ (N + 1) z) (hPi : ∀ i, i < 12 → pipI σ 1 i) (hZ : ∀ z, S' ≤ z → z < 8 → ∀ t, t < 6 → σ (33 + 2 * z) t = 0) (hHd : ∀ z, z < 8 → ∀ t, T' ≤ t → t < 6 → σ (33 + 2 * z) t = 0) : gKp σ (N + 1) := by
  have h9 := hI.2.2.2.2.2.1
  exact ⟨T', S', d', h5, hT6, h6, hS8, h7, by omega, by omega, hTu, hSt, hPi, hZ, hHd⟩
theorem Inv_fr (hI : Inv ρ N T S d) (hN : N < 600) (hfr : ∀ k, (1 < k ∧ k ≤ 5) ∨ 14 ≤ k → σ k = ρ k) (h5 : σ 0 5 = nI T') (hT' : T ≤ T' ∧ T' ≤ 6) (h6 : σ 0 6 = nI S') (hS' : S ≤ S' ∧ S' ≤ 8) (h7 : σ 0 7 = nI d') (hd' : d' ≤ d + 60) : gKp σ (N + 1) := by
  obtain ⟨hT, hT6, hS, hS8, hd, hdN, hN6, hTu, hSt, hPi, hZ, hHd⟩ := id hI
  refine Inv_mk hI hN h5 hT'.2 h6 hS'.2 h7 hd' (fun t ht => tun_cg (hTu t ht) (fun k h1 h2 => hfr k (by omega))) (fun z hz => str_cg (hSt z hz) (by rw [hfr _ (by omega)]) (fun t _ => by rw [hfr _ (by omega)])) (fun i hi => pip_cg (hPi i hi) (by rw [hfr _ (by omega)]) (by rw [hfr _ (by omega)]) (by rw [hfr _ (by omega)]) (by rw [hfr _ (by omega)])) (fun z h1 h2 t ht => ?_) (fun z hz t h1 h2 => ?_)
  · rw [hfr _ (by omega)]
    exact hZ z (by omega) h2 t ht
  · rw [hfr _ (by omega)]
    exact hHd z hz t (by omega) h2
theorem kp_0 (h : gKp ρ N) (hN : N < 600) : gKp ρ (N + 1) := by
  obtain ⟨T, S, d, hI⟩ := h
  obtain ⟨hT, hT6, hS, hS8, hd, hdN, hN6, hTu, hSt, hPi, hZ, hHd⟩ := id hI
  exact Inv_fr hI hN (fun _ _ => rfl) hT (by omega) hS (by omega) hd (by omega)
theorem kp_bar (h : gKp ρ N) (hN : N < 600) : gKp (barF ρ).2.2 (N + 1) := by
  unfold barF
  by_cases h6 : ρ 0 5 = 6
  · rw [if_pos h6]
    exact kp_0 h hN
  · obtain ⟨T, S, d, hI⟩ := h
    obtain ⟨hT, hT6, hS, hS8, hd, hdN, hN6, hTu, hSt, hPi, hZ, hHd⟩ := id hI
    have hT5 : T < 6 := by
      rcases Nat.lt_or_ge T 6 with q | q
      · exact q
      · exact absurd (by rw [hT, show T = 6 by omega]; rfl) h6
    rw [if_neg h6]
    try dsimp only
    exact Inv_fr (T' := T + 1) hI hN (fun k hk => funext fun j => up2_k (by omega)) (by rw [hT]; exact up2_s.trans (nI_1 T)) (by omega) ((up2_j (by decide)).trans hS) (by omega) ((up2_j (by decide)).trans hd) (by omega)
theorem pin_tun {t q L : Nat} (hq : q < 12) (hL : ρ (14 + 3 * t) 2 = nI L) (hL16 : L < 16) (hLn : ∀ k, k < L → ∃ q : Nat, q < 12 ∧ ρ (15 + 3 * t) k = nI q) (hLc : ∀ q, q < 12 → ρ (16 + 3 * t) q = cntI (ρ (15 + 3 * t)) (nI q) L) : tunI (up2 (up2 (up2 ρ (15 + 3 * t) L (nI q)) (16 + 3 * t) q (ρ (16 + 3 * t) q + 1)) (14 + 3 * t) 2 (nI L + 1)) t := by
  have e5 : ∀ k, up2 (up2 (up2 ρ (15 + 3 * t) L (nI q)) (16 + 3 * t) q (ρ (16 + 3 * t) q + 1)) (14 + 3 * t) 2 (nI L + 1) (15 + 3 * t) k = if k = L then nI q else ρ (15 + 3 * t) k := fun k => by
    rw [up2_k (by omega), up2_k (by omega), up2_e]
    by_cases h : k = L
    · rw [if_pos ⟨rfl, h⟩, if_pos h]
    · rw [if_neg (fun h9 => h h9.2), if_neg h]
  refine ⟨L + 1, up2_s.trans (nI_1 L), by omega, fun k hk => ?_, fun q2 hq2 => ?_⟩
  · rw [e5]
    by_cases h : k = L
    · rw [if_pos h]
      exact ⟨q, hq, rfl⟩
    · rw [if_neg h]
      exact hLn k (by omega)
  · have e6 : cntI (up2 (up2 (up2 ρ (15 + 3 * t) L (nI q)) (16 + 3 * t) q (ρ (16 + 3 * t) q + 1)) (14 + 3 * t) 2 (nI L + 1) (15 + 3 * t)) (nI q2) L = cntI (ρ (15 + 3 * t)) (nI q2) L := sumI_congr (fun j hj => by simp only [e5, if_neg (show ¬ j = L by omega)])
    rw [cntI_s, e6, e5, if_pos rfl, up2_k (by omega), up2_e, ← hLc q2 hq2]
    by_cases h : q2 = q
    · subst h
      rw [if_pos ⟨rfl, rfl⟩, if_pos rfl]
    · rw [if_neg (fun h9 => h h9.2), if_neg (nI_ne (fun h9 => h h9.symm) (by omega) (by omega)), up2_k (by omega), Int32.add_zero]
theorem kp_pin {x y : Int32} (h : gKp ρ N) (hN : N < 600) : gKp (pinF ρ x y).2.2 (N + 1) := by
  unfold pinF
  by_cases h1 : inb x (ρ 0 5)
  · rw [if_pos h1]
    by_cases h2 : inb y 12
    · rw [if_pos h2]
      by_cases h3 : ρ (14 + 3 * ix x) 2 = 16
      · rw [if_pos h3]
        exact kp_0 h hN
      · rw [if_neg h3]
        obtain ⟨T, S, d, hI⟩ := h
        obtain ⟨hT, hT6, hS, hS8, hd, hdN, hN6, hTu, hSt, hPi, hZ, hHd⟩ := id hI
        obtain ⟨t, ht, rfl⟩ := inb_N hT (by omega) h1
        obtain ⟨q, hq, rfl⟩ := inb_N (T := 12) rfl (by omega) h2
        obtain ⟨L, hL, hL16, hLn, hLc⟩ := hTu t (by omega)
        rw [show ix (nI t) = t from nI_clamp (by omega)] at h3 ⊢
        rw [show ix (nI q) = q from nI_clamp (by omega), hL, show ix (nI L) = L from nI_clamp (by omega)]
        have hL15 : L < 16 := by
          rcases Nat.lt_or_ge L 16 with q9 | q9
          · exact q9
          · exact absurd (by rw [hL, show L = 16 by omega]; rfl) h3
        have e : ∀ k j, k < 14 + 3 * t ∨ 16 + 3 * t < k → up2 (up2 (up2 ρ (15 + 3 * t) L (nI q)) (16 + 3 * t) q (ρ (16 + 3 * t) q + 1)) (14 + 3 * t) 2 (nI L + 1) k j = ρ k j := fun k j hk => by rw [up2_k (by omega), up2_k (by omega), up2_k (by omega)]
        try dsimp only
        refine Inv_mk hI hN ((e 0 5 (by omega)).trans hT) hT6 ((e 0 6 (by omega)).trans hS) hS8 ((e 0 7 (by omega)).trans hd) (by omega) (fun t2 ht2 => ?_) (fun z hz => str_cg (hSt z hz) (e _ _ (by omega)) (fun t2 _ => e _ _ (by omega))) (fun i hi => pip_cg (hPi i hi) (e _ _ (by omega)) (e _ _ (by omega)) (e _ _ (by omega)) (e _ _ (by omega))) (fun z h8 h9 t2 ht2 => (e _ _ (by omega)).trans (hZ z h8 h9 t2 ht2)) (fun z hz t2 h8 h9 => (e _ _ (by omega)).trans (hHd z hz t2 h8 h9))
        by_cases h7 : t2 = t
        · subst h7
          exact pin_tun hq hL hL15 hLn hLc
        · exact tun_cg (hTu t2 ht2) (fun k h8 h9 => funext fun j => e k j (by omega))
    · rw [if_neg h2]
      exact kp_0 h hN
  · rw [if_neg h1]
    exact kp_0 h hN
theorem kp_not {x y : Int32} (h : gKp ρ N) (hN : N < 600) : gKp (notF ρ x y).2.2 (N + 1) := by
  unfold notF
  repeat' split
  all_goals exact kp_0 h hN
theorem kp_str {x y : Int32} (h : gKp ρ N) (hN : N < 600) : gKp (strF ρ x y).2.2 (N + 1) := by
  unfold strF
  by_cases h1 : inl x 90
  · rw [if_pos h1]
    by_cases h2 : inl y 127
    · rw [if_pos h2]
      by_cases h3 : ρ 0 6 = 8
      · rw [if_pos h3]
        exact kp_0 h hN
      · rw [if_neg h3]
        obtain ⟨T, S, d, hI⟩ := h
        obtain ⟨hT, hT6, hS, hS8, hd, hdN, hN6, hTu, hSt, hPi, hZ, hHd⟩ := id hI
        have hS7 : S < 8 := by
          rcases Nat.lt_or_ge S 8 with q9 | q9
          · exact q9
          · exact absurd (by rw [hS, show S = 8 by omega]; rfl) h3
        obtain ⟨u, hu, rfl⟩ := inl_N (K := 90) rfl (by omega) h1
        rw [hS, show ix (nI S) = S from nI_clamp (by omega)]
        have e : ∀ k j, k ≠ 0 → k ≠ 32 + 2 * S → up2 (up2 (up2 ρ (32 + 2 * S) 1 (nI u)) (32 + 2 * S) 2 y) 0 6 (nI S + 1) k j = ρ k j := fun k j hk hk2 => by rw [up2_k (by omega), up2_k (by omega), up2_k (by omega)]
        have e0 : ∀ j, j ≠ 6 → up2 (up2 (up2 ρ (32 + 2 * S) 1 (nI u)) (32 + 2 * S) 2 y) 0 6 (nI S + 1) 0 j = ρ 0 j := fun j hj => by rw [up2_j hj, up2_k (by omega), up2_k (by omega)]
        try dsimp only
        refine Inv_mk (S' := S + 1) hI hN ((e0 5 (by omega)).trans hT) hT6 (up2_s.trans (nI_1 S)) (by omega) ((e0 7 (by omega)).trans hd) (by omega) (fun t ht => tun_cg (hTu t ht) (fun k h8 h9 => funext fun j => e k j (by omega) (by omega))) (fun z hz => ?_) (fun i hi => pip_cg (hPi i hi) (e _ _ (by omega) (by omega)) (e _ _ (by omega) (by omega)) (e _ _ (by omega) (by omega)) (e _ _ (by omega) (by omega))) (fun z h8 h9 t ht => (e _ _ (by omega) (by omega)).trans (hZ z (by omega) h9 t ht)) (fun z hz t h8 h9 => (e _ _ (by omega) (by omega)).trans (hHd z hz t h8 h9))
        by_cases h7 : z = S
        · subst h7
          refine ⟨⟨u, hu, ?_⟩, fun t ht => ?_⟩
          · rw [up2_k (by omega), up2_j (by decide), up2_s]
          · obtain ⟨q, hq, e9⟩ := (hSt z hz).2 t ht
            exact ⟨q, by omega, (e _ _ (by omega) (by omega)).trans e9⟩
        · exact str_cg (hSt z hz) (e _ _ (by omega) (by omega)) (fun t _ => e _ _ (by omega) (by omega))
    · rw [if_neg h2]
      exact kp_0 h hN
  · rw [if_neg h1]
    exact kp_0 h hN
theorem kp_per {x y : Int32} (h : gKp ρ N) (hN : N < 600) : gKp (perF ρ x y).2.2 (N + 1) := by
  unfold perF
  by_cases h1 : inb x (ρ 0 6)
  · rw [if_pos h1]
    by_cases h2 : inl y 127
    · rw [if_pos h2]
      obtain ⟨T, S, d, hI⟩ := h
      obtain ⟨hT, hT6, hS, hS8, hd, hdN, hN6, hTu, hSt, hPi, hZ, hHd⟩ := id hI
      obtain ⟨z, hz, rfl⟩ := inb_N hS (by omega) h1
      rw [show ix (nI z) = z from nI_clamp (by omega)]
      have e : ∀ k j, k ≠ 32 + 2 * z ∨ j ≠ 2 → up2 ρ (32 + 2 * z) 2 y k j = ρ k j := fun k j hk => by
        rw [up2_e, if_neg (by omega)]
      try dsimp only
      exact Inv_mk hI hN ((e 0 5 (by omega)).trans hT) hT6 ((e 0 6 (by omega)).trans hS) hS8 ((e 0 7 (by omega)).trans hd) (by omega) (fun t ht => tun_cg (hTu t ht) (fun k h8 h9 => funext fun j => e k j (by omega))) (fun z2 hz2 => str_cg (hSt z2 hz2) (e _ _ (by omega)) (fun t _ => e _ _ (by omega))) (fun i hi => pip_cg (hPi i hi) (e _ _ (by omega)) (e _ _ (by omega)) (e _ _ (by omega)) (e _ _ (by omega))) (fun z2 h8 h9 t ht => (e _ _ (by omega)).trans (hZ z2 h8 h9 t ht)) (fun z2 hz2 t h8 h9 => (e _ _ (by omega)).trans (hHd z2 hz2 t h8 h9))
    · rw [if_neg h2]
      exact kp_0 h hN
  · rw [if_neg h1]
    exact kp_0 h hN
theorem kp_dam {x y : Int32} (h : gKp ρ N) (hN : N < 600) : gKp (damF ρ x y).2.2 (N + 1) := by
  unfold damF
  by_cases h1 : inb x 7
  · rw [if_pos h1]
    by_cases h2 : inl y 5
    · rw [if_pos h2]
      obtain ⟨T, S, d, hI⟩ := h
      obtain ⟨hT, hT6, hS, hS8, hd, hdN, hN6, hTu, hSt, hPi, hZ, hHd⟩ := id hI
      try dsimp only
      exact Inv_fr hI hN (fun k hk => funext fun j => up2_k (by omega)) ((up2_k (by omega)).trans hT) (by omega) ((up2_k (by omega)).trans hS) (by omega) ((up2_k (by omega)).trans hd) (by omega)
    · rw [if_neg h2]
      exact kp_0 h hN
  · rw [if_neg h1]
    exact kp_0 h hN
theorem kp_ply {z t : Nat} (hI : Inv ρ N T S d) (hN : N < 600) (hz : z < S) (ht : t < T) : gKp (plyR ρ z t) (N + 1) := by
  obtain ⟨hT, hT6, hS, hS8, hd, hdN, hN6, hTu, hSt, hPi, hZ, hHd⟩ := id hI
  unfold plyR
  obtain ⟨v1, e1⟩ : ∃ q, q = ρ 0 8 + pyN ρ z t := ⟨_, rfl⟩
  obtain ⟨v2, e2⟩ : ∃ q, q = ρ (32 + 2 * z) 3 + pyN ρ z t := ⟨_, rfl⟩
  rw [← e1, ← e2]
  obtain ⟨R, eR⟩ : ∃ q, q = up2 (up2 (up2 ρ 0 8 v1) (32 + 2 * z) 3 v2) (33 + 2 * z) t (ρ (33 + 2 * z) t + 1) := ⟨_, rfl⟩
  rw [← eR]
  have r : ∀ k j, ¬ (k = 0 ∧ j = 8) → ¬ (k = 32 + 2 * z ∧ j = 3) → ¬ (k = 33 + 2 * z ∧ j = t) → R k j = ρ k j := fun k j h1 h2 h3 => by
    rw [eR, up2_e, if_neg h3, up2_e, if_neg h2, up2_e, if_neg h1]
  have o : ∀ k j, k ≠ 2 → k ≠ 5 → ¬ (k = 0 ∧ j = 8) → ¬ (k = 32 + 2 * z ∧ j = 3) → ¬ (k = 33 + 2 * z ∧ j = t) → wdR R 1 t 12 k j = ρ k j := fun k j h1 h2 h3 h4 h5 => by
    rw [wd_out (by omega) (by omega)]
    exact r k j h3 h4 h5
  have tu : ∀ t2, t2 < 6 → tunI R t2 := fun t2 ht2 => tun_cg (hTu t2 ht2) (fun k h8 h9 => funext fun j => r k j (by omega) (by omega) (by omega))
  try dsimp only
  refine Inv_mk hI hN ((o 0 5 (by omega) (by omega) (by omega) (by omega) (by omega)).trans hT) hT6 ((o 0 6 (by omega) (by omega) (by omega) (by omega) (by omega)).trans hS) hS8 ((o 0 7 (by omega) (by omega) (by omega) (by omega) (by omega)).trans hd) (by omega) (fun t2 ht2 => tun_cg (tu t2 ht2) (fun k h8 h9 => wd_out (by omega) (by omega))) (fun z2 hz2 => ?_) (fun i hi => wd_pip (tu t (by omega)) hi (pip_cg (hPi i hi) (r _ _ (by omega) (by omega) (by omega)) (r _ _ (by omega) (by omega) (by omega)) (r _ _ (by omega) (by omega) (by omega)) (r _ _ (by omega) (by omega) (by omega)))) (fun z2 h8 h9 t2 ht2 => (o _ _ (by omega) (by omega) (by omega) (by omega) (by omega)).trans (hZ z2 h8 h9 t2 ht2)) (fun z2 hz2 t2 h8 h9 => (o _ _ (by omega) (by omega) (by omega) (by omega) (by omega)).trans (hHd z2 hz2 t2 h8 h9))
  by_cases h7 : z2 = z
  · subst h7
    obtain ⟨⟨u, hu, eu⟩, hh⟩ := hSt z2 hz2
    refine ⟨⟨u, hu, (o _ _ (by omega) (by omega) (by omega) (by omega) (by omega)).trans eu⟩, fun t2 ht2 => ?_⟩
    obtain ⟨q, hq, e9⟩ := hh t2 ht2
    by_cases h6 : t2 = t
    · subst h6
      refine ⟨q + 1, by omega, ?_⟩
      rw [wd_out (by omega) (by omega), eR, up2_s, e9, nI_1]
    · exact ⟨q, by omega, (o _ _ (by omega) (by omega) (by omega) (by omega) (by omega)).trans e9⟩
  · exact str_cg (hSt z2 hz2) (o _ _ (by omega) (by omega) (by omega) (by omega) (by omega)) (fun t2 _ => o _ _ (by omega) (by omega) (by omega) (by omega) (by omega))
theorem kp_pla {x y : Int32} (h : gKp ρ N) (hN : N < 600) : gKp (plaF ρ x y).2.2 (N + 1) := by
  unfold plaF
  by_cases h1 : inb x (ρ 0 6)
  · rw [if_pos h1]
    by_cases h2 : inb y (ρ 0 5)
    · rw [if_pos h2]
      by_cases h3 : ρ (14 + 3 * ix y) 2 = 0
      · rw [if_pos h3]
        exact kp_0 h hN
      · rw [if_neg h3]
        obtain ⟨T, S, d, hI⟩ := h
        obtain ⟨hT, hT6, hS, hS8, hd, hdN, hN6, hTu, hSt, hPi, hZ, hHd⟩ := id hI
        by_cases h4 : pmF (ρ (32 + 2 * ix x) 2) (wdF ρ) = 0
        · rw [if_pos h4]
          have e0 : ∀ j, j ≠ 8 → j ≠ 9 → finR ρ 0 j = ρ 0 j := fun j h8 h9 => (up2_j h9).trans (up2_j h8)
          try dsimp only
          exact Inv_fr hI hN (fun k hk => funext fun j => (up2_k (by omega)).trans (up2_k (by omega))) ((e0 5 (by omega) (by omega)).trans hT) (by omega) ((e0 6 (by omega) (by omega)).trans hS) (by omega) ((e0 7 (by omega) (by omega)).trans hd) (by omega)
        · rw [if_neg h4]
          obtain ⟨z, hz, rfl⟩ := inb_N hS (by omega) h1
          obtain ⟨t, ht, rfl⟩ := inb_N hT (by omega) h2
          rw [show ix (nI z) = z from nI_clamp (by omega), show ix (nI t) = t from nI_clamp (by omega)]
          exact kp_ply hI hN hz ht
    · rw [if_neg h2]
      exact kp_0 h hN
  · rw [if_neg h1]
    exact kp_0 h hN
theorem Inv_pip (hI : Inv ρ N T S d) (hN : N < 600) (h0 : ∀ j, j ≠ 8 → σ 0 j = ρ 0 j) (hfr : ∀ k, 14 ≤ k → σ k = ρ k) (hPi : ∀ i, i < 12 → pipI σ 1 i) : gKp σ (N + 1) := by
  obtain ⟨hT, hT6, hS, hS8, hd, hdN, hN6, hTu, hSt, hPi2, hZ, hHd⟩ := id hI
  try dsimp only
  exact Inv_mk hI hN ((h0 5 (by omega)).trans hT) hT6 ((h0 6 (by omega)).trans hS) hS8 ((h0 7 (by omega)).trans hd) (by omega) (fun t ht => tun_cg (hTu t ht) (fun k h1 h2 => hfr k (by omega))) (fun z hz => str_cg (hSt z hz) (by rw [hfr _ (by omega)]) (fun t _ => by rw [hfr _ (by omega)])) hPi (fun z h1 h2 t ht => by rw [hfr _ (by omega)]; exact hZ z h1 h2 t ht) (fun z hz t h1 h2 => by rw [hfr _ (by omega)]; exact hHd z hz t h1 h2)
theorem kp_tun {x y : Int32} (h : gKp ρ N) (hN : N < 600) : gKp (tunF ρ x y).2.2 (N + 1) := by
  unfold tunF
  by_cases h1 : inb x 12
  · rw [if_pos h1]
    by_cases h2 : ¬ y < -120 ∧ y ≤ 120
    · rw [if_pos h2]
      obtain ⟨T, S, d, hI⟩ := h
      try dsimp only
      refine Inv_pip hI hN (fun j _ => up2_k (by omega)) (fun k hk => funext fun j => up2_k (by omega)) (fun i hi => ?_)
      obtain ⟨hw, ho, hc, hs⟩ := hI.2.2.2.2.2.2.2.2.2.1 i hi
      unfold pipI
      rw [up2_k (a := 1 + 1) (by omega), up2_k (a := 1 + 3) (by omega), up2_k (a := 1 + 4) (by omega)]
      refine ⟨hw, ?_, hc, hs⟩
      rw [up2_e]
      split
      · exact hd_b
      · exact ho
    · rw [if_neg h2]
      exact kp_0 h hN
  · rw [if_neg h1]
    exact kp_0 h hN
theorem kp_fel {x : Int32} (h : gKp ρ N) (hN : N < 600) : gKp (felF ρ x).2.2 (N + 1) := by
  unfold felF
  by_cases h1 : inb x 12
  · rw [if_pos h1]
    by_cases h2 : ρ 0 8 < 4
    · rw [if_pos h2]
      exact kp_0 h hN
    · rw [if_neg h2]
      obtain ⟨T, S, d, hI⟩ := h
      try dsimp only
      refine Inv_pip hI hN (fun j hj => (up2_k (by omega)).trans (up2_j hj)) (fun k hk => funext fun j => (up2_k (by omega)).trans (up2_k (by omega))) (fun i hi => ?_)
      obtain ⟨hw, ho, hc, hs⟩ := hI.2.2.2.2.2.2.2.2.2.1 i hi
      unfold pipI
      rw [up2_k (a := 1 + 2) (by omega), up2_k (a := 1 + 2) (by omega), up2_k (a := 1 + 3) (by omega), up2_k (a := 1 + 3) (by omega), up2_k (a := 1 + 4) (by omega), up2_k (a := 1 + 4) (by omega)]
      refine ⟨?_, ho, hc, hs⟩
      rw [up2_e]
      split
      · exact ⟨0, by omega, rfl⟩
      · rw [up2_k (by omega)]
        exact hw
  · rw [if_neg h1]
    exact kp_0 h hN
theorem kp_cha (h : gKp ρ N) (hN : N < 600) : gKp (clrR ρ 1 12) (N + 1) := by
  obtain ⟨T, S, d, hI⟩ := h
  have e : ∀ k j, k ≠ 4 → clrR ρ 1 12 k j = ρ k j := fun k j hk => by
    unfold clrR
    rw [if_neg (by omega)]
  try dsimp only
  refine Inv_pip hI hN (fun j hj => e _ _ (by omega)) (fun k hk => funext fun j => e _ _ (by omega)) (fun i hi => ?_)
  obtain ⟨hw, ho, hc, hs⟩ := hI.2.2.2.2.2.2.2.2.2.1 i hi
  unfold pipI
  rw [e _ _ (by omega), e _ _ (by omega), e (1 + 4) _ (by omega)]
  refine ⟨hw, ho, Or.inl ?_, hs⟩
  unfold clrR
  rw [if_pos ⟨rfl, hi⟩]
theorem kp_res {x : Int32} (h : gKp ρ N) (hN : N < 600) : gKp (resF ρ x).2.2 (N + 1) := by
  unfold resF
  by_cases h1 : ¬ x < 1 ∧ x ≤ 60
  · rw [if_pos h1]
    obtain ⟨T, S, d, hI⟩ := h
    obtain ⟨hT, hT6, hS, hS8, hd, hdN, hN6, hTu, hSt, hPi, hZ, hHd⟩ := id hI
    obtain ⟨n, hn, rfl⟩ := nig_N h1
    unfold resR
    rw [hd, hS, show ix (nI d) = d from nI_clamp (by omega), show ix (nI S) = S from nI_clamp (by omega), show ix (nI n) = n from nI_clamp (by omega)]
    have e : ∀ k j, ¬ (k = 0 ∧ j = 7) → k < 33 ∨ k % 2 = 0 → up2 (fgA (nsR ρ 1 d n) S) 0 7 (nI (d + n)) k j = nsR ρ 1 d n k j := fun k j h2 h3 => by
      rw [up2_e, if_neg h2]
      unfold fgA
      rw [if_neg (by omega)]
    have eh : ∀ z t, t < 6 → up2 (fgA (nsR ρ 1 d n) S) 0 7 (nI (d + n)) (33 + 2 * z) t = if z < S then 0 else ρ (33 + 2 * z) t := fun z t ht => by
      rw [up2_k (by omega)]
      unfold fgA
      by_cases h9 : z < S
      · rw [if_pos h9, if_pos (by omega)]
      · rw [if_neg h9, if_neg (by omega), nsR_out (k := 33 + 2 * z) (by omega)]
    have f : ∀ k j, ¬ (k = 0 ∧ j = 7) → (k < 33 ∨ k % 2 = 0) → (k < 3 ∨ 5 < k) → up2 (fgA (nsR ρ 1 d n) S) 0 7 (nI (d + n)) k j = ρ k j := fun k j h2 h3 h4 => by
      rw [e k j h2 h3, nsR_out (k := k) (by omega)]
    try dsimp only
    refine Inv_mk (d' := d + n) hI hN ((f 0 5 (by omega) (by omega) (by omega)).trans hT) hT6 ((f 0 6 (by omega) (by omega) (by omega)).trans hS) hS8 up2_s (by omega) (fun t ht => tun_cg (hTu t ht) (fun k h8 h9 => funext fun j => f k j (by omega) (by omega) (by omega))) (fun z hz => ?_) (fun i hi => pip_cg (ns_pip (d := d) (n := n) (hPi i hi)) (e _ _ (by omega) (by omega)) (e _ _ (by omega) (by omega)) (e _ _ (by omega) (by omega)) (e _ _ (by omega) (by omega))) (fun z h8 h9 t ht => ?_) (fun z hz t h8 h9 => ?_)
    · obtain ⟨⟨u, hu, eu⟩, hh⟩ := hSt z hz
      refine ⟨⟨u, hu, (f _ _ (by omega) (by omega) (by omega)).trans eu⟩, fun t ht => ?_⟩
      obtain ⟨q, hq, e9⟩ := hh t ht
      rw [eh z t ht]
      split
      · exact ⟨0, by omega, rfl⟩
      · exact ⟨q, by omega, e9⟩
    · rw [eh z t ht, if_neg (by omega)]
      exact hZ z h8 h9 t ht
    · rw [eh z t h9]
      split
      · rfl
      · exact hHd z hz t h8 h9
  · rw [if_neg h1]
    exact kp_0 h hN
theorem kp_for {x y : Int32} (h : gKp ρ N) (hN : N < 600) : gKp (forF ρ x y).2.2 (N + 1) := by
  unfold forF
  by_cases h1 : ¬ x < 1 ∧ x ≤ 60
  · rw [if_pos h1]
    by_cases h2 : ¬ y < 5 ∧ y ≤ 7
    · rw [if_pos h2]
      obtain ⟨T, S, d, hI⟩ := h
      obtain ⟨hT, hT6, hS, hS8, hd, hdN, hN6, hTu, hSt, hPi, hZ, hHd⟩ := id hI
      have e : ∀ k, k ≤ 5 ∨ 14 ≤ k → forR ρ (ix x) k = ρ k := fun k hk => by
        unfold forR
        rw [nsR_out (k := k) (by omega), bec_out (by omega)]
      try dsimp only
      exact Inv_fr hI hN (fun k hk => e k (by omega)) (by rw [e 0 (by omega)]; exact hT) (by omega) (by rw [e 0 (by omega)]; exact hS) (by omega) (by rw [e 0 (by omega)]; exact hd) (by omega)
    · rw [if_neg h2]
      exact kp_0 h hN
  · rw [if_neg h1]
    exact kp_0 h hN
theorem kp_las {x : Int32} (h : gKp ρ N) (hN : N < 600) : gKp (lasF ρ x).2.2 (N + 1) := by
  unfold lasF
  by_cases h1 : inb x (ρ 0 5)
  · rw [if_pos h1]
    obtain ⟨T, S, d, hI⟩ := h
    obtain ⟨hT, hT6, hS, hS8, hd, hdN, hN6, hTu, hSt, hPi, hZ, hHd⟩ := id hI
    have e : ∀ k, k ≤ 5 ∨ 14 ≤ k → trR ρ (ix x) (laK ρ (ix x) 99 0) k = ρ k := fun k hk => tr_out (by omega)
    try dsimp only
    exact Inv_fr hI hN (fun k hk => e k (by omega)) (by rw [e 0 (by omega)]; exact hT) (by omega) (by rw [e 0 (by omega)]; exact hS) (by omega) (by rw [e 0 (by omega)]; exact hd) (by omega)
  · rw [if_neg h1]
    exact kp_0 h hN
theorem kp_pip {x y : Int32} (h : gKp ρ N) (hN : N < 600) : gKp (pipF ρ x y).2.2 (N + 1) := by
  unfold pipF
  repeat' split
  all_goals exact kp_0 h hN
theorem kp_sou {x : Int32} (h : gKp ρ N) (hN : N < 600) : gKp (souF ρ x).2.2 (N + 1) := by
  unfold souF
  repeat' split
  all_goals exact kp_0 h hN
theorem kp_tol {x y : Int32} (h : gKp ρ N) (hN : N < 600) : gKp (tolF ρ x y).2.2 (N + 1) := by
  unfold tolF
  repeat' split
  all_goals exact kp_0 h hN
theorem kp_cou {x : Int32} (h : gKp ρ N) (hN : N < 600) : gKp (couF ρ x).2.2 (N + 1) := by
  unfold couF
  repeat' split
  all_goals exact kp_0 h hN
theorem kp_pay {x y : Int32} (h : gKp ρ N) (hN : N < 600) : gKp (payF ρ x y).2.2 (N + 1) := by
  unfold payF
  repeat' split
  all_goals exact kp_0 h hN
theorem kp_bes {x : Int32} (h : gKp ρ N) (hN : N < 600) : gKp (besF ρ x).2.2 (N + 1) := by
  unfold besF
  repeat' split
  all_goals exact kp_0 h hN
theorem kp_wor {x : Int32} (h : gKp ρ N) (hN : N < 600) : gKp (worF ρ x).2.2 (N + 1) := by
  unfold worF
  repeat' split
  all_goals exact kp_0 h hN
end KP
end
section
/-! Objects made anew: worlds whose cells are told outright -/
def cE (E : Nat → va_E) : Nat → (Nat → Int32) → va_E := fun k _ => E k
def z0 : gSt := fun _ _ => 0
def uE (E : Nat → va_E) (k : Nat) (x : va_E) : Nat → va_E := fun i => if i = k then x else E i
def jA (n0 : Nat) (ad u : Nat → Nat) : Nat → Nat := fun k => if k < n0 then ad k else u (k - n0)
def jE (n0 : Nat) (E F : Nat → va_E) : Nat → va_E := fun k => if k < n0 then E k else F (k - n0)
def gZr : Nat → Int32 := fun _ => 0
theorem gE_push {n q : Nat} {ad : Nat → Nat} {E : Nat → va_E} {x : va_E} : gWl (n + 1) (xAd ad n q) (cE (uE E n x)) z0 = gWl n ad (cE E) z0 ++ [(q, x)] := by
  simp only [gWl, List.range_succ, List.map_append, List.map_cons, List.map_nil]
  congr 1
  · apply List.map_congr_left
    intro k hk
    have : k ≠ n := by have := List.mem_range.mp hk; omega
    simp only [xAd, cE, uE]
    rw [if_neg this, if_neg this]
  · simp [xAd, cE, uE]
theorem gE_set {n k : Nat} {ad : Nat → Nat} {E : Nat → va_E} {x : va_E} (h : k < n) : (gWl n ad (cE E) z0).set k (ad k, x) = gWl n ad (cE (uE E k x)) z0 := by
  apply List.ext_getElem?
  intro i
  by_cases hk : i = k
  · subst hk
    rw [gWl_get h, List.getElem?_set_self (by simp [gWl]; exact h)]
    simp [cE, uE]
  · rw [List.getElem?_set_ne (fun q => hk q.symm)]
    by_cases hi : i < n
    · rw [gWl_get hi, gWl_get hi]
      simp [cE, uE, hk]
    · rw [List.getElem?_eq_none (by simp [gWl]; omega), List.getElem?_eq_none (by simp [gWl]; omega)]
theorem gE_join {n0 n' : Nat} {ad u : Nat → Nat} {E F : Nat → va_E} : gWl (n0 + n') (jA n0 ad u) (cE (jE n0 E F)) z0 = gWl n0 ad (cE E) z0 ++ gWl n' u (cE F) z0 := by
  apply List.ext_getElem?
  intro i
  have hlen : (gWl n0 ad (cE E) z0).length = n0 := by simp [gWl]
  by_cases h1 : i < n0
  · rw [gWl_get (by omega), List.getElem?_append_left (by rw [hlen]; exact h1), gWl_get h1]
    simp [cE, jA, jE, h1]
  · rw [List.getElem?_append_right (by rw [hlen]; omega), hlen]
    by_cases h2 : i < n0 + n'
    · rw [gWl_get h2, gWl_get (by omega)]
      simp [cE, jA, jE, h1]
    · rw [List.getElem?_eq_none (by simp [gWl]; omega), List.getElem?_eq_none (by simp [gWl]; omega)]
theorem gE_eq {n : Nat} {ad ad' : Nat → Nat} {E E' : Nat → va_E} (h : ∀ k, k < n → ad k = ad' k ∧ E k = E' k) : gWl n ad (cE E) z0 = gWl n ad' (cE E') z0 := by
  simp only [gWl]
  apply List.map_congr_left
  intro k hk
  obtain ⟨h1, h2⟩ := h k (List.mem_range.mp hk)
  simp only [cE]
  rw [h1, h2]
/-- the contract of a constructor: from an object's fresh cell to a world of its own -/
def gMC (l : Launch) (y : MethodName) (b : ByteArray) (nL : Nat) (rm : Room) (D : va_G) (cy : Nat → ClassId) (ci : Nat) (fs : List Value) (n' : Nat) (cz' : (Nat → Nat) → Nat → va_E) (mc ms : Nat) (Zs : List String) : Prop := ∀ q sz : Nat, Met l y (Cond.code y b nL none :: wAll) rm (va_Pc [.ref q] (fun U => U.heap.size = sz ∧ va_P D vwCl [(q, .inr (ci, fs))] U.heap ∧ va_K D vwCl (gT cy) U ∧ gNst U ∧ q < sz ∧ ∀ C9 ∈ Zs, va_AO C9 U)) (va_Qv (fun u : Nat → Nat => u 0 = q) (fun u t => va_P D vwCl (gWl n' u (cE (cz' u)) z0) t.heap ∧ va_D (fun x => x = q ∨ sz ≤ x) (gWl n' u (cE (cz' u)) z0)) (fun x => x = q ∨ sz ≤ x)) mc ms (fun x => x = q ∨ sz ≤ x)
def eSame (x y : va_E) : Prop := x = y ∨ ∃ (cA : ClassId) (len : Nat) (f f' : Nat → Option Nat), x = .inl (cA, len, .inr (.inr (.inr (.inr f)))) ∧ y = .inl (cA, len, .inr (.inr (.inr (.inr f')))) ∧ ∀ j, j < len → f j = f' j
theorem eSame.at {D : va_G} {cl : List vw_C} {q : Nat} {H : Heap} {x y : va_E} (h : eSame x y) (hx : va_at D cl (q, x) H) : va_at D cl (q, y) H := by
  rcases h with rfl | ⟨cA, len, f, f', rfl, rfl, h⟩
  · exact hx
  · have hx : H[q]? = some (vp_cell cA (len, .inr (.inr (.inr (.inr f))))) := hx
    show H[q]? = some (vp_cell cA (len, .inr (.inr (.inr (.inr f')))))
    rw [hx, vp_cell_q, vp_cell_q]
    have : (fun j : Fin len => va_rf (f j)) = fun j : Fin len => va_rf (f' j) := funext fun j => by rw [h j.1 j.2]
    unfold arrV
    rw [this]
section CTR
variable {p : Program} {l : Launch} {e : Env} {R : Room} {s : State} {m : MethodId} {args : Array Value} {below : List Frame} {meth : Method} {c : Code} {Q : State → Prop}
variable {cc : ByteArray} {nL : Nat} {Ts : List Cond} {own : String} {D : va_G} {cy : Nat → ClassId} {A : Nat → Prop}
variable {n : Nat} {ad : Nat → Nat} {cz : Nat → (Nat → Int32) → va_E} {ρ : gSt} {E : Nat → va_E} {cells slots pc : Nat} {ls ls' : List (Nat × Value)} {st st0 rest : List Value}
variable {y : MethodName} {rm : Room} {bytes : ByteArray} {maxL index mc ms : Nat} {C : String} {T : u_T} {N ci : Nat} {fs : List Value}

theorem gE_cg {ad' : Nat → Nat} {E' : Nat → va_E} (h : ∀ k, k < n → ad k = ad' k ∧ E k = E' k) (kk : GW p l e R s m args below meth c Q nL D A (n) (ad') (cE (E')) z0 (cells) (slots) (pc) ls (st)) : GW p l e R s m args below meth c Q nL D A (n) (ad) (cE (E)) z0 (cells) (slots) (pc) ls (st) := fun H locs la hP hD hS hl => kk H locs la (by rw [← gE_eq h]; exact hP) (by rw [← gE_eq h]; exact hD) hS hl
theorem g_obj (X : gX p m c cc nL s args Ts own D cy A) {a : Nat} (h1 : Cond.methodLink own index objectInit ∈ wAll) (h2 : Cond.instanceMethod objectInit ∈ wAll) (h3 : Cond.code objectInit ⟨#[0xb1]⟩ 1 none ∈ wAll) (hR : 1 ≤ R.frames ∧ (st.map fun v => v.category).sum + 12 ≤ R.locals) (hd : decode cc pc = .ok (.invokespecial index, 3)) (kk : GW p l e R s m args below meth c Q nL D A n ad cz ρ cells slots (pc + 3) ls st) : GW p l e R s m args below meth c Q nL D A n ad cz ρ cells slots pc ls (.ref a :: st) := fun H locs la hP hD hS hl => by
  have ht := X.1.2.2.2.2
  refine W.objInit X.1.1 X.1.2.1 X.1.2.2.2.1 (ht _ (X.2.2.2.1 _ h1)) (ht _ (X.2.2.2.1 _ h2)) (ht _ (X.2.2.2.1 _ h3)) rfl (hl.1.trans X.1.2.2.1.symm) rfl hd hR.1 (by show 2 * 0 + _ + _ ≤ _; omega) ?_
  exact W.eq (g2 := F0 m (pc + 3) la st) rfl (kk H locs la hP hD hS hl)
theorem gE_new (X : gX p m c cc nL s args Ts own D cy A) (hin : ∀ w ∈ u_ws C T N, w ∈ wAll) (ty : Nat → FieldType) (hty : ∀ k, k < N → parseFieldDescriptor (T k).2.2.1 = some (ty k)) (h1 : Cond.classLink own index C ∈ wAll) (h2 : Cond.instantiable C N ∈ wAll) (h3 : Cond.initialized C ∈ wAll) (hc : vwCl[ci]? = some (C, T, N)) (fs : List Value) (hfs : ∀ j, j < N → defaultValue (ty j) = vp_V fs j) (hroom : cells + 1 ≤ R.cells ∧ slots + N ≤ R.slots) (hd : decode cc pc = .ok (.new index, 3)) (kk : ∀ q, GW p l e R s m args below meth c Q nL D A (n + 1) (xAd ad n q) (cE (uE E n (.inr (ci, fs)))) z0 (cells + 1) (slots + N) (pc + 3) ls (.ref (xAd ad n q n) :: st)) : GW p l e R s m args below meth c Q nL D A (n) (ad) (cE (E)) z0 (cells) (slots) (pc) ls (st) := fun H locs la hP hD hS hl => by
  have ht := X.1.2.2.2.2
  refine va_new X.1.1 X.1.2.1 ht (fun w hw => X.2.2.2.1 _ (hin w hw)) ty hty X.1.2.2.2.1 (ht _ (X.2.2.2.1 _ h1)) (ht _ (X.2.2.2.1 _ h2)) (ht _ (X.2.2.2.1 _ h3)) X.2.1 hP hD hS X.2.2.1 hc hfs hroom.1 hroom.2 hd (fun q H1 hP1 hD1 hS1 => ?_)
  rw [← gE_push] at hP1 hD1
  have e9 : xAd ad n q n = q := by simp [xAd]
  have := kk q H1 locs la hP1 hD1 hS1 hl
  rw [e9] at this
  exact this
theorem gE_nq (X : gX p m c cc nL s args Ts own D cy A) (t0 : Nat) {cA : ClassId} (len : Nat) (hlen : len < 2 ^ 20) (h1 : Cond.classLink own index C ∈ wAll) (h2 : va_AO C s) (ht0 : (gT cy)[t0]? = some (cA, .object C)) (hroom : cells + 1 ≤ R.cells ∧ slots + len ≤ R.slots) (hd : decode cc pc = .ok (.anewarray index, 3)) (kk : ∀ q, GW p l e R s m args below meth c Q nL D A (n + 1) (xAd ad n q) (cE (uE E n (.inl (cA, len, .inr (.inr (.inr (.inr (fun _ => none)))))))) z0 (cells + 1) (slots + len) (pc + 3) ls (.ref (xAd ad n q n) :: st)) : GW p l e R s m args below meth c Q nL D A (n) (ad) (cE (E)) z0 (cells) (slots) (pc) ls (.int (nI len) :: st) := fun H locs la hP hD hS hl => by
  have ht := X.1.2.2.2.2
  refine va_newq X.1.1 X.1.2.1 X.1.2.2.2.1 (ht _ (X.2.2.2.1 _ h1)) h2 X.2.1 hP hD hS X.2.2.1 (fun h => nI_pos (show len < 2 ^ 31 by omega) h) (nI_clamp (by omega)) (by omega) hroom.1 hroom.2 hd (fun q cA1 H1 hK1 hP1 hD1 hS1 => ?_)
  have e0 : cA1 = cA := by
    obtain ⟨kA, comp, g1, g2, g3, g4⟩ := (hK1.2 5 (cA1, .object C) rfl).2
    obtain ⟨kA', comp', k1, k2, k3, k4⟩ := (X.2.1.2 t0 (cA, .object C) ht0).2
    exact Option.some.inj (g4.symm.trans k4)
  subst e0
  rw [← gE_push] at hP1 hD1
  have e9 : xAd ad n q n = q := by simp [xAd]
  have := kk q H1 locs la hP1 hD1 hS1 hl
  rw [e9] at this
  exact this
theorem gE_ast (X : gX p m c cc nL s args Ts own D cy A) (t0 : Nat) {cA : ClassId} (k k2 i len : Nat) (hk : k < n) (hk2 : k2 < n) {f : Nat → Option Nat} {vs : List Value} {r : vw_C} (ha : E k = .inl (cA, len, .inr (.inr (.inr (.inr f))))) (hv : E k2 = .inr (ci, vs)) (hc : vwCl[ci]? = some r) (ht0 : (gT cy)[t0]? = some (cA, .object r.1)) (hi : i < len) (hlen : len < 2 ^ 20) (hd : decode cc pc = .ok (.aastore, 1)) (kk : GW p l e R s m args below meth c Q nL D A (n) (ad) (cE (uE E k (.inl (cA, len, .inr (.inr (.inr (.inr (va_up f i (some (ad k2)))))))) )) z0 (cells) (slots) (pc + 1) ls (st)) : GW p l e R s m args below meth c Q nL D A (n) (ad) (cE (E)) z0 (cells) (slots) (pc) ls (.ref (ad k2) :: .int (nI i) :: .ref (ad k) :: st) := fun H locs la hP hD hS hl => by
  refine va_astq X.1.1 X.1.2.1 X.2.1 hP hD hS k t0 k2 ci ((gWl_get hk).trans (by simp only [cE]; rw [ha])) ht0 ((gWl_get hk2).trans (by simp only [cE]; rw [hv])) hc (pk_in i len hi rfl (by omega)) hd (fun H1 locs1 hP1 hD1 hS1 => ?_)
  rw [nI_clamp (by omega), gE_set hk] at hP1 hD1
  exact kk H1 locs1 la hP1 hD1 hS1 hl
theorem gE_newi (X : gX p m c cc nL s args Ts own D cy A) (len : Nat) (hlen : len < 2 ^ 20) (hw : Cond.arrayClass .int ∈ wAll) (hroom : cells + 1 ≤ R.cells ∧ slots + len ≤ R.slots) (hd : decode cc pc = .ok (.newarray .int, 2)) (kk : ∀ q, GW p l e R s m args below meth c Q nL D A (n + 1) (xAd ad n q) (cE (uE E n (.inl (cy 0, len, .inl gZr)))) z0 (cells + 1) (slots + len) (pc + 2) ls (.ref (xAd ad n q n) :: st)) : GW p l e R s m args below meth c Q nL D A (n) (ad) (cE (E)) z0 (cells) (slots) (pc) ls (.int (nI len) :: st) := fun H locs la hP hD hS hl => by
  refine va_newa (atype := .int) (a0 := (len, .inl gZr)) X.1.1 X.1.2.1 (X.1.2.2.2.2 _ (X.2.2.2.1 _ hw)) rfl X.2.1 hP hD hS X.2.2.1 (fun _ => rfl) (fun h => nI_pos (show len < 2 ^ 31 by omega) h) (nI_clamp (by omega)) (by show len * 4 ≤ _; omega) hroom.1 hroom.2 hd (fun q cA H1 hK1 hP1 hD1 hS1 => ?_)
  have e0 : cA = cy 0 := by
    have h1 := (hK1.2 5 (cA, .int) rfl).2
    have h2 := (X.2.1.2 0 (cy 0, .int) rfl).2
    exact Option.some.inj (h1.symm.trans h2)
  subst e0
  rw [← gE_push] at hP1 hD1
  have e9 : xAd ad n q n = q := by simp [xAd]
  have := kk q H1 locs la hP1 hD1 hS1 hl
  rw [e9] at this
  exact this
theorem gE_newz (X : gX p m c cc nL s args Ts own D cy A) (len : Nat) (hlen : len < 2 ^ 20) (hw : Cond.arrayClass .boolean ∈ wAll) (hroom : cells + 1 ≤ R.cells ∧ slots + len ≤ R.slots) (hd : decode cc pc = .ok (.newarray .boolean, 2)) (kk : ∀ q, GW p l e R s m args below meth c Q nL D A (n + 1) (xAd ad n q) (cE (uE E n (.inl (cy 1, len, .inl gZr)))) z0 (cells + 1) (slots + len) (pc + 2) ls (.ref (xAd ad n q n) :: st)) : GW p l e R s m args below meth c Q nL D A (n) (ad) (cE (E)) z0 (cells) (slots) (pc) ls (.int (nI len) :: st) := fun H locs la hP hD hS hl => by
  refine va_newa (atype := .boolean) (a0 := (len, .inl gZr)) X.1.1 X.1.2.1 (X.1.2.2.2.2 _ (X.2.2.2.1 _ hw)) rfl X.2.1 hP hD hS X.2.2.1 (fun _ => rfl) (fun h => nI_pos (show len < 2 ^ 31 by omega) h) (nI_clamp (by omega)) (by show len * 1 ≤ _; omega) hroom.1 hroom.2 hd (fun q cA H1 hK1 hP1 hD1 hS1 => ?_)
  have e0 : cA = cy 1 := by
    have h1 := (hK1.2 5 (cA, .boolean) rfl).2
    have h2 := (X.2.1.2 1 (cy 1, .boolean) rfl).2
    exact Option.some.inj (h1.symm.trans h2)
  subst e0
  rw [← gE_push] at hP1 hD1
  have e9 : xAd ad n q n = q := by simp [xAd]
  have := kk q H1 locs la hP1 hD1 hS1 hl
  rw [e9] at this
  exact this
theorem gE_putF (X : gX p m c cc nL s args Ts own D cy A) (k0 : Nat) (hk0 : k0 < n) (hin : ∀ w ∈ u_ws C T N, w ∈ wAll) (ty0 : Nat → FieldType) (hty : ∀ k, k < N → parseFieldDescriptor (T k).2.2.1 = some (ty0 k)) (hnm : ∀ a, a < N → ∀ b, b < N → a ≠ b → (T a).2.1 ≠ (T b).2.1) (hE : E k0 = .inr (ci, fs)) (hc : vwCl[ci]? = some (C, T, N)) (k : Nat) (hk : k < N) (hlink : Cond.fieldLink own index (T k).1 (T k).2.1 (T k).2.2.1 ∈ wAll) (hfin : (T k).2.2.2 = true) (hin2 : meth.name = "<init>") (hdecl : (T k).1 = own) {ty : FieldType} {v : Value} (hpd : parseFieldDescriptor (T k).2.2.1 = some ty) (hn : narrow ty v = v) (hfit : fits ty v = true) (hlt : k < fs.length) (hd : decode cc pc = .ok (.putfield index, 3)) (kk : GW p l e R s m args below meth c Q nL D A (n) (ad) (cE (uE E k0 (.inr (ci, fs.set k v)))) z0 (cells) (slots) (pc + 3) ls (st)) : GW p l e R s m args below meth c Q nL D A (n) (ad) (cE (E)) z0 (cells) (slots) (pc) ls (v :: .ref (ad k0) :: st) := fun H locs la hP hD hS hl => by
  have ht := X.1.2.2.2.2
  refine va_putF X.1.1 X.1.2.1 ht (fun w hw => X.2.2.2.1 _ (hin w hw)) ty0 hty hnm X.1.2.2.2.1 X.2.1 hP hD hS k0 ((gWl_get hk0).trans (by simp only [cE]; rw [hE])) hc k hk (ht _ (X.2.2.2.1 _ hlink)) (fun _ h9 => h9) hfin hin2 hdecl hpd hn hfit hlt hd (fun H1 locs1 hP1 hD1 hS1 => ?_)
  rw [gE_set hk0] at hP1 hD1
  exact kk H1 locs1 la hP1 hD1 hS1 hl
theorem gE_put (X : gX p m c cc nL s args Ts own D cy A) (k0 : Nat) (hk0 : k0 < n) (hin : ∀ w ∈ u_ws C T N, w ∈ wAll) (ty0 : Nat → FieldType) (hty : ∀ k, k < N → parseFieldDescriptor (T k).2.2.1 = some (ty0 k)) (hnm : ∀ a, a < N → ∀ b, b < N → a ≠ b → (T a).2.1 ≠ (T b).2.1) (hE : E k0 = .inr (ci, fs)) (hc : vwCl[ci]? = some (C, T, N)) (k : Nat) (hk : k < N) (hlink : Cond.fieldLink own index (T k).1 (T k).2.1 (T k).2.2.1 ∈ wAll) (hfin : (T k).2.2.2 = false) {ty : FieldType} {v : Value} (hpd : parseFieldDescriptor (T k).2.2.1 = some ty) (hn : narrow ty v = v) (hfit : fits ty v = true) (hlt : k < fs.length) (hd : decode cc pc = .ok (.putfield index, 3)) (kk : GW p l e R s m args below meth c Q nL D A (n) (ad) (cE (uE E k0 (.inr (ci, fs.set k v)))) z0 (cells) (slots) (pc + 3) ls (st)) : GW p l e R s m args below meth c Q nL D A (n) (ad) (cE (E)) z0 (cells) (slots) (pc) ls (v :: .ref (ad k0) :: st) := fun H locs la hP hD hS hl => by
  have ht := X.1.2.2.2.2
  refine va_put X.1.1 X.1.2.1 ht (fun w hw => X.2.2.2.1 _ (hin w hw)) ty0 hty hnm X.1.2.2.2.1 X.2.1 hP hD hS k0 ((gWl_get hk0).trans (by simp only [cE]; rw [hE])) hc k hk (ht _ (X.2.2.2.1 _ hlink)) (fun _ h9 => h9) hfin hpd hn hfit hlt hd (fun H1 locs1 hP1 hD1 hS1 => ?_)
  rw [gE_set hk0] at hP1 hD1
  exact kk H1 locs1 la hP1 hD1 hS1 hl
theorem gE_ctor (X : gX p m c cc nL s args Ts own D cy A) {n0 n' : Nat} (hn0 : n = n0 + 1) {cz' : (Nat → Nat) → Nat → va_E} {Zs : List String} (hM : gMC l y bytes maxL rm D cy ci fs n' cz' mc ms Zs) (hZs : ∀ C9 ∈ Zs, va_AO C9 s) (hL : Cond.methodLink own index y ∈ wAll) (hnm : y.name = "<init>") (hi : Cond.instanceMethod y ∈ wAll) (h4 : Cond.initialized y.cls ∈ wAll) (h5 : Cond.code y bytes maxL none ∈ wAll) (h6 : y.cls ≠ "java/lang/invoke/MethodHandle" ∧ y.cls ≠ "java/lang/invoke/VarHandle" ∧ (parseMethodDescriptor y.desc).map (fun d => d.parameters.length) = some 0) (hR : rm.cells = mc ∧ rm.slots = ms ∧ rm.frames + 1 ≤ R.frames ∧ 8 + (maxL + 11) + rm.locals ≤ R.locals) (hE : E n0 = .inr (ci, fs)) (hcat : (st.map fun v => v.category).sum ≤ 8) (hd : decode cc pc = .ok (.invokespecial index, 3)) (hroom : cells + mc ≤ R.cells ∧ slots + ms ≤ R.slots) (kk : ∀ u : Nat → Nat, u 0 = ad n0 → GW p l e R s m args below meth c Q nL D A (n0 + n') (jA n0 ad u) (cE (jE n0 E (cz' u))) z0 (cells + mc) (slots + ms) (pc + 3) ls (st)) : GW p l e R s m args below meth c Q nL D A (n) (ad) (cE (E)) z0 (cells) (slots) (pc) ls (.ref (ad n0) :: st) := fun H locs la hP hD hS hl => by
  have ht := X.1.2.2.2.2
  subst hn0
  have hA0 : A (ad n0) := gD_in hD (by omega)
  have hlt0 : ad n0 < H.size := (hP n0 _ (gWl_get (by omega))).lt
  refine va_callv (va_runI (As := []) X.1 (hM (ad n0) H.size) ⟨callB_of 0 (X.1.2.2.2.2) (gGood X.2.2.2.1 h5) rfl hR.1 hR.2.1 (ht _ (X.2.2.2.1 _ h4)) (ht _ (X.2.2.2.1 _ hL)) h6 hR.2.2, hnm, ht _ (X.2.2.2.1 _ hi)⟩ ⟨fun a U g mk q => by obtain ⟨q0, q1, qP, qK, qN, qz, qA⟩ := q; exact ⟨q0, q1, qP, va_K.moved (u := U) (U := U.calling g mk a) (Vm.Alike.refl U.vm) qK, gNst_same (u := U) (U := U.calling g mk a) rfl qN, qz, fun C9 h9 => va_AO.moved (u := U) (U := U.calling g mk a) (Vm.Alike.refl U.vm) (qA C9 h9)⟩, fun U hU hW => ⟨rfl, by rw [hU], ?_, va_K.moved hW.alike X.2.1, gNst_warm hW X.2.2.2.2, hlt0, fun C9 h9 => va_AO.moved hW.alike (hZs C9 h9)⟩⟩ rfl rfl hl.1 rfl (lv_room hcat) hd hroom) hS (fun q hq h => ?_) (fun q h => ?_) (fun u t H1 locs1 hth hvm hw hB hz1 hk1 hS1 => ?_)
  · rw [hU]
    intro k q hq
    have hk0 : k = 0 := by
      rcases k with _ | k
      · rfl
      · simp at hq
    subst hk0
    cases hq
    have := hP n0 _ (gWl_get (by omega))
    simp only [cE] at this
    rw [hE] at this
    exact this
  · rcases h with rfl | h
    · exact hA0
    · omega
  · rcases h with rfl | h
    · exact hA0
    · exact X.2.2.1 _ (Nat.le_trans hS.1 h)
  · obtain ⟨hP1, hD1⟩ := hB
    rw [hth] at hP1
    have hne : ∀ k, k < n0 → ad k ≠ ad n0 := fun k hk h9 => by
      have := gD_inj hD k n0 (by omega) (by omega) h9
      omega
    have hbase : va_P D vwCl (gWl n0 ad (cE E) z0) H1 := by
      intro k q hq
      obtain ⟨hk, rfl⟩ := gWl_out hq
      have h := hP k _ (gWl_get (by omega))
      refine h.kept (hk1 _ h.lt ?_)
      rintro (h9 | h9)
      · exact hne k hk h9
      · have := h.lt
        exact absurd this (Nat.not_lt.mpr h9)
    have hPj := hbase.app hP1
    have hDn : va_D A (gWl n0 ad (cE E) z0) := gD_of (fun i j h1 h2 h3 => gD_inj hD i j (by omega) (by omega) h3) (fun k hk => gD_in hD (by omega))
    have hDu : va_D A (gWl n' u (cE (cz' u)) z0) := hD1.weaken (fun k q hq h9 => by
      rcases h9 with h9 | h9
      · rw [h9]; exact hA0
      · exact X.2.2.1 _ (Nat.le_trans hS.1 h9))
    have hDj := hDn.app hDu (fun i j x1 x2 h1 h2 h3 => by
      obtain ⟨hi9, rfl⟩ := gWl_out h1
      have h4 := hD1.2 j _ h2
      have h3 : ad i = x2.1 := h3
      rw [← h3] at h4
      rcases h4 with h4 | h4
      · exact hne i hi9 h4
      · have := (hP i _ (gWl_get (by omega))).lt
        exact absurd this (Nat.not_lt.mpr h4))
    rw [← gE_join] at hPj hDj
    exact kk u hw H1 locs1 la hPj hDj hS1 hl
theorem gE_ctorN (X : gX p m c cc nL s args Ts own D cy A) {n0 n' : Nat} (hn0 : n = n0 + 1) {cz' : (Nat → Nat) → Nat → va_E} {Zs : List String} (hM : gMC l y bytes maxL rm D cy ci fs n' cz' mc ms Zs) (hZs : ∀ C9 ∈ Zs, va_AO C9 s) {host : String} (hL : Cond.methodLinkNest own index y host ∈ gNsw) (hnm : y.name = "<init>") (hi : Cond.instanceMethod y ∈ wAll) (h4 : Cond.initialized y.cls ∈ wAll) (h5 : Cond.code y bytes maxL none ∈ wAll) (h6 : y.cls ≠ "java/lang/invoke/MethodHandle" ∧ y.cls ≠ "java/lang/invoke/VarHandle" ∧ (parseMethodDescriptor y.desc).map (fun d => d.parameters.length) = some 0) (hR : rm.cells = mc ∧ rm.slots = ms ∧ rm.frames + 1 ≤ R.frames ∧ 8 + (maxL + 11) + rm.locals ≤ R.locals) (hE : E n0 = .inr (ci, fs)) (hcat : (st.map fun v => v.category).sum ≤ 8) (hd : decode cc pc = .ok (.invokespecial index, 3)) (hroom : cells + mc ≤ R.cells ∧ slots + ms ≤ R.slots) (kk : ∀ u : Nat → Nat, u 0 = ad n0 → GW p l e R s m args below meth c Q nL D A (n0 + n') (jA n0 ad u) (cE (jE n0 E (cz' u))) z0 (cells + mc) (slots + ms) (pc + 3) ls (st)) : GW p l e R s m args below meth c Q nL D A (n) (ad) (cE (E)) z0 (cells) (slots) (pc) ls (.ref (ad n0) :: st) := fun H locs la hP hD hS hl => by
  have ht := X.1.2.2.2.2
  subst hn0
  have hA0 : A (ad n0) := gD_in hD (by omega)
  have hlt0 : ad n0 < H.size := (hP n0 _ (gWl_get (by omega))).lt
  refine va_callv (va_runIN (As := []) X.1 (hM (ad n0) H.size) ⟨gCwN ht X.2.2.2.1 X.2.2.2.2 hL h4 h5 h6 hR, hnm, ht _ (X.2.2.2.1 _ hi)⟩ ⟨fun a U g mk q => by obtain ⟨q0, q1, qP, qK, qN, qz, qA⟩ := q; exact ⟨q0, q1, qP, va_K.moved (u := U) (U := U.calling g mk a) (Vm.Alike.refl U.vm) qK, gNst_same (u := U) (U := U.calling g mk a) rfl qN, qz, fun C9 h9 => va_AO.moved (u := U) (U := U.calling g mk a) (Vm.Alike.refl U.vm) (qA C9 h9)⟩, fun U hU hW => ⟨rfl, by rw [hU], ?_, va_K.moved hW.alike X.2.1, gNst_warm hW X.2.2.2.2, hlt0, fun C9 h9 => va_AO.moved hW.alike (hZs C9 h9)⟩⟩ rfl rfl hl.1 rfl (lv_room hcat) hd hroom) hS (fun q hq h => ?_) (fun q h => ?_) (fun u t H1 locs1 hth hvm hw hB hz1 hk1 hS1 => ?_)
  · rw [hU]
    intro k q hq
    have hk0 : k = 0 := by
      rcases k with _ | k
      · rfl
      · simp at hq
    subst hk0
    cases hq
    have := hP n0 _ (gWl_get (by omega))
    simp only [cE] at this
    rw [hE] at this
    exact this
  · rcases h with rfl | h
    · exact hA0
    · omega
  · rcases h with rfl | h
    · exact hA0
    · exact X.2.2.1 _ (Nat.le_trans hS.1 h)
  · obtain ⟨hP1, hD1⟩ := hB
    rw [hth] at hP1
    have hne : ∀ k, k < n0 → ad k ≠ ad n0 := fun k hk h9 => by
      have := gD_inj hD k n0 (by omega) (by omega) h9
      omega
    have hbase : va_P D vwCl (gWl n0 ad (cE E) z0) H1 := by
      intro k q hq
      obtain ⟨hk, rfl⟩ := gWl_out hq
      have h := hP k _ (gWl_get (by omega))
      refine h.kept (hk1 _ h.lt ?_)
      rintro (h9 | h9)
      · exact hne k hk h9
      · have := h.lt
        exact absurd this (Nat.not_lt.mpr h9)
    have hPj := hbase.app hP1
    have hDn : va_D A (gWl n0 ad (cE E) z0) := gD_of (fun i j h1 h2 h3 => gD_inj hD i j (by omega) (by omega) h3) (fun k hk => gD_in hD (by omega))
    have hDu : va_D A (gWl n' u (cE (cz' u)) z0) := hD1.weaken (fun k q hq h9 => by
      rcases h9 with h9 | h9
      · rw [h9]; exact hA0
      · exact X.2.2.1 _ (Nat.le_trans hS.1 h9))
    have hDj := hDn.app hDu (fun i j x1 x2 h1 h2 h3 => by
      obtain ⟨hi9, rfl⟩ := gWl_out h1
      have h4 := hD1.2 j _ h2
      have h3 : ad i = x2.1 := h3
      rw [← h3] at h4
      rcases h4 with h4 | h4
      · exact hne i hi9 h4
      · have := (hP i _ (gWl_get (by omega))).lt
        exact absurd this (Nat.not_lt.mpr h4))
    rw [← gE_join] at hPj hDj
    exact kk u hw H1 locs1 la hPj hDj hS1 hl
theorem gE_ret (X : gX p m c cc nL s args Ts own D cy A) (hr : meth.sig.returnType = none) (hlocks : meth.locks = false) (q : Nat) (hA : A = fun x => x = q ∨ s.heap.size ≤ x) {cz' : (Nat → Nat) → Nat → va_E} (u : Nat → Nat) (hu : u 0 = q) (n' : Nat) (g : Nat → Nat) (hg : ∀ k, k < n' → g k < n ∧ ad (g k) = u k ∧ eSame (E (g k)) (cz' u k)) (hgi : ∀ i j, i < n' → j < n' → g i = g j → i = j) (hc : cells ≤ mc) (hs : slots ≤ ms) (hd : decode cc pc = .ok (.return_, 1)) : GW p l e R s m args below meth c (MQ below (va_Qv (fun u : Nat → Nat => u 0 = q) (fun u t => va_P D vwCl (gWl n' u (cE (cz' u)) z0) t.heap ∧ va_D (fun x => x = q ∨ s.heap.size ≤ x) (gWl n' u (cE (cz' u)) z0)) (fun x => x = q ∨ s.heap.size ≤ x)) args s mc ms (fun x => x = q ∨ s.heap.size ≤ x)) nL D A n ad (cE E) z0 cells slots pc ls [] := fun H locs la hP hD hS hl => by
  subst hA
  have hi : gInj n' u := fun i j h1 h2 h3 => by
    obtain ⟨a1, a2, a3⟩ := hg i h1
    obtain ⟨b1, b2, b3⟩ := hg j h2
    rw [← a2, ← b2] at h3
    exact hgi i j h1 h2 (gD_inj hD _ _ a1 b1 h3)
  have hP2 : va_P D vwCl (gWl n' u (cE (cz' u)) z0) H := fun k x hx => by
    obtain ⟨hk, rfl⟩ := gWl_out hx
    obtain ⟨h1, h2, h3⟩ := hg k hk
    have := hP (g k) _ (gWl_get h1)
    rw [h2] at this
    exact h3.at this
  exact W.widen hc hs (W.vret X.1.1 X.1.2.1 hr (fun t ht hW => ⟨⟨u, rfl, hu, by rw [ht]; exact hP2, gD_of hi (fun k hk => by rw [← (hg k hk).2.1]; exact gD_in hD (hg k hk).1)⟩, hS.F ht⟩) hS.2.2 hd hlocks)
theorem gMC_of {n' : Nat} {Zs : List String} {cz' : (Nat → Nat) → Nat → va_E} (own : String) (hown : y.cls = own) (hy : plainFor y = true) (hlen : 1 ≤ nL) (body : ∀ (p : Program) (e : Env) (s : State) (m : MethodId) (args : Array Value) (below : List Frame) (meth : Method) (c : Code) (A : Nat → Prop) (q : Nat), A = (fun x => x = q ∨ s.heap.size ≤ x) → gX p m c cc nL s args (Cond.code y cc nL none :: wAll) own D cy A → meth.sig.returnType = none → meth.locks = false → meth.name = y.name → (∀ C9 ∈ Zs, va_AO C9 s) → GW p l e rm s m args below meth c (MQ below (va_Qv (fun u : Nat → Nat => u 0 = q) (fun u t => va_P D vwCl (gWl n' u (cE (cz' u)) z0) t.heap ∧ va_D (fun x => x = q ∨ s.heap.size ≤ x) (gWl n' u (cE (cz' u)) z0)) (fun x => x = q ∨ s.heap.size ≤ x)) args s mc ms (fun x => x = q ∨ s.heap.size ≤ x)) nL D A 1 (fun _ => q) (cE (fun _ => .inr (ci, fs))) z0 0 0 0 [(0, .ref q)] []) : gMC l y cc nL rm D cy ci fs n' cz' mc ms Zs := by
  intro q sz
  refine va_MetF (cc := cc) (maxL := nL) (ret := none) hy rfl ?_
  intro p e s m args below meth c s₁ B hml hv
  obtain ⟨rfl, hsz, hP, hK, hN, hq, hZ⟩ := hv
  have hts := atoms_spec (ws := Cond.code y cc nL none :: wAll) B.pre
  have hfc := findClass_of_methodNamed B.named
  rw [hown] at hfc
  have hl := lv_entry [Value.ref q] (n := nL) hlen
  rw [lg_entry_eq]
  subst hsz
  refine body p e s m _ below meth c (fun x => x = q ∨ s.heap.size ≤ x) q rfl ⟨⟨B.exec, B.bytes, hml, hfc, hts⟩, hK, fun q h => Or.inr h, fun w h => List.mem_cons_of_mem _ h, hN⟩ B.returns B.notSynchronized (name_of_methodNamed B.named B.method).1 hZ s.heap [] _ hP ?_ va_S.rf hl
  refine ⟨fun i j x1 x2 h1 h2 h3 => ?_, fun k x hx => ?_⟩
  · have a1 := (gWl_out h1).1
    have a2 := (gWl_out h2).1
    omega
  · obtain ⟨hk, rfl⟩ := gWl_out hx
    exact Or.inl rfl
end CTR
end
section
theorem ko_X0 : Cond.methodLink RX0 3 objectInit ∈ wAll := kAll 37 (by decide +kernel) (by decide +kernel)
theorem ko_i : Cond.instanceMethod objectInit ∈ wAll := kAll 30 (by decide +kernel) (by decide +kernel)
theorem ko_c : Cond.code objectInit ⟨#[0xb1]⟩ 1 none ∈ wAll := kAll 31 (by decide +kernel) (by decide +kernel)
theorem ka_int : Cond.arrayClass .int ∈ wAll := kAll 53 (by decide +kernel) (by decide +kernel)
theorem kg_X0_9 : Cond.fieldLink RX0 9 (TX0 0).1 (TX0 0).2.1 (TX0 0).2.2.1 ∈ wAll := kAll 38 (by decide +kernel) (by decide +kernel)
theorem kg_X0_15 : Cond.fieldLink RX0 15 (TX0 1).1 (TX0 1).2.1 (TX0 1).2.2.1 ∈ wAll := kAll 40 (by decide +kernel) (by decide +kernel)
theorem ka_bool : Cond.arrayClass .boolean ∈ wAll := kAll 54 (by decide +kernel) (by decide +kernel)
theorem kg_X0_18 : Cond.fieldLink RX0 18 (TX0 2).1 (TX0 2).2.1 (TX0 2).2.2.1 ∈ wAll := kAll 42 (by decide +kernel) (by decide +kernel)
theorem kg_X0_22 : Cond.fieldLink RX0 22 (TX0 3).1 (TX0 3).2.1 (TX0 3).2.2.1 ∈ wAll := kAll 43 (by decide +kernel) (by decide +kernel)
theorem ko_X1 : Cond.methodLink RX1 3 objectInit ∈ wAll := kAll 80 (by decide +kernel) (by decide +kernel)
theorem kg_X1_9 : Cond.fieldLink RX1 9 (TX1 0).1 (TX1 0).2.1 (TX1 0).2.2.1 ∈ wAll := kAll 81 (by decide +kernel) (by decide +kernel)
theorem ko_X2 : Cond.methodLink RX2 3 objectInit ∈ wAll := kAll 61 (by decide +kernel) (by decide +kernel)
theorem kg_X2_9 : Cond.fieldLink RX2 9 (TX2 0).1 (TX2 0).2.1 (TX2 0).2.2.1 ∈ wAll := kAll 62 (by decide +kernel) (by decide +kernel)
theorem kg_X2_15 : Cond.fieldLink RX2 15 (TX2 1).1 (TX2 1).2.1 (TX2 1).2.2.1 ∈ wAll := kAll 64 (by decide +kernel) (by decide +kernel)
theorem kg_X3_21 : Cond.fieldLink RX3 21 (TX3 2).1 (TX3 2).2.1 (TX3 2).2.2.1 ∈ wAll := kAll 100 (by decide +kernel) (by decide +kernel)
theorem kC_X3_19 : Cond.classLink RX3 19 RX2 ∈ wAll := kAll 55 (by decide +kernel) (by decide +kernel)
theorem kN_X2 : Cond.instantiable RX2 3 ∈ wAll := kAll 57 (by decide +kernel) (by decide +kernel)
theorem kj_X2_init : Cond.instanceMethod yX2_init ∈ wAll := kAll 59 (by decide +kernel) (by decide +kernel)
theorem kc_X2_init : Cond.code yX2_init cX2_init 1 none ∈ wAll := kAll 60 (by decide +kernel) (by decide +kernel)
theorem kM_X3_25 : Cond.methodLinkNest RX3 25 yX2_init RX3 ∈ gNsw := by decide +kernel
theorem kg_X3_28 : Cond.fieldLink RX3 28 (TX3 3).1 (TX3 3).2.1 (TX3 3).2.2.1 ∈ wAll := kAll 101 (by decide +kernel) (by decide +kernel)
theorem kC_X3_26 : Cond.classLink RX3 26 RX1 ∈ wAll := kAll 74 (by decide +kernel) (by decide +kernel)
theorem kN_X1 : Cond.instantiable RX1 4 ∈ wAll := kAll 76 (by decide +kernel) (by decide +kernel)
theorem kj_X1_init : Cond.instanceMethod yX1_init ∈ wAll := kAll 78 (by decide +kernel) (by decide +kernel)
theorem kc_X1_init : Cond.code yX1_init cX1_init 1 none ∈ wAll := kAll 79 (by decide +kernel) (by decide +kernel)
theorem kM_X3_32 : Cond.methodLinkNest RX3 32 yX1_init RX3 ∈ gNsw := by decide +kernel
theorem ko_X3 : Cond.methodLink RX3 1 objectInit ∈ wAll := kAll 29 (by decide +kernel) (by decide +kernel)
theorem kC_X3_7 : Cond.classLink RX3 7 RX0 ∈ wAll := kAll 32 (by decide +kernel) (by decide +kernel)
theorem kN_X0 : Cond.instantiable RX0 4 ∈ wAll := kAll 33 (by decide +kernel) (by decide +kernel)
theorem kj_X0_init : Cond.instanceMethod yX0_init ∈ wAll := kAll 35 (by decide +kernel) (by decide +kernel)
theorem kc_X0_init : Cond.code yX0_init cX0_init 1 none ∈ wAll := kAll 36 (by decide +kernel) (by decide +kernel)
theorem kM_X3_9 : Cond.methodLinkNest RX3 9 yX0_init RX3 ∈ gNsw := by decide +kernel
theorem kg_X3_10 : Cond.fieldLink RX3 10 (TX3 0).1 (TX3 0).2.1 (TX3 0).2.2.1 ∈ wAll := kAll 98 (by decide +kernel) (by decide +kernel)
theorem kg_X3_16 : Cond.fieldLink RX3 16 (TX3 1).1 (TX3 1).2.1 (TX3 1).2.2.1 ∈ wAll := kAll 99 (by decide +kernel) (by decide +kernel)
theorem kg_X3_33 : Cond.fieldLink RX3 33 (TX3 4).1 (TX3 4).2.1 (TX3 4).2.2.1 ∈ wAll := kAll 102 (by decide +kernel) (by decide +kernel)
theorem kg_X3_37 : Cond.fieldLink RX3 37 (TX3 8).1 (TX3 8).2.1 (TX3 8).2.2.1 ∈ wAll := kAll 106 (by decide +kernel) (by decide +kernel)
/-! The constructors -/
def czX0 (u : Nat → Nat) (cy : Nat → ClassId) (k : Nat) : va_E := if k = 0 then .inr (0, [.ref (u 1), .ref (u 2), .ref (u 3), .ref (u 4)]) else if k < 3 then .inl (cy 0, 12, .inl gZr) else .inl (cy 1, 12, .inl gZr)
def czX1 (u : Nat → Nat) (cy : Nat → ClassId) (k : Nat) : va_E := if k = 0 then .inr (1, [.ref (u 1), .int 0, .int 0, .int 0]) else .inl (cy 0, 6, .inl gZr)
def czX2 (u : Nat → Nat) (cy : Nat → ClassId) (k : Nat) : va_E := if k = 0 then .inr (2, [.ref (u 1), .ref (u 2), .int 0]) else if k = 1 then .inl (cy 0, 16, .inl gZr) else .inl (cy 0, 12, .inl gZr)
/-- the first rows of the class's cells -/
def i0C (k : Nat) : Nat → Int32 := if k = 0 then (fun j => if j = 8 then 20 else 0) else gZr
theorem czX0_cg {u u' : Nat → Nat} {cy : Nat → ClassId} {k : Nat} (h : ∀ j, j < 5 → u j = u' j) : czX0 u cy k = czX0 u' cy k := by
  unfold czX0
  rw [h 1 (by omega), h 2 (by omega), h 3 (by omega), h 4 (by omega)]
theorem czX1_cg {u u' : Nat → Nat} {cy : Nat → ClassId} {k : Nat} (h : ∀ j, j < 2 → u j = u' j) : czX1 u cy k = czX1 u' cy k := by
  unfold czX1
  rw [h 1 (by omega)]
theorem czX2_cg {u u' : Nat → Nat} {cy : Nat → ClassId} {k : Nat} (h : ∀ j, j < 3 → u j = u' j) : czX2 u cy k = czX2 u' cy k := by
  unfold czX2
  rw [h 1 (by omega), h 2 (by omega)]
set_option maxRecDepth 4000 in
theorem c_X0_init (l : Launch) (D : va_G) (cy : Nat → ClassId) : gMC l yX0_init cX0_init 1 { frames := 1, cells := 4, slots := 48, locals := 20 } D cy 0 [.null, .null, .null, .null] 5 (fun u => czX0 u cy) 4 48 [] := by
  refine gMC_of RX0 rfl (by decide +kernel) (Nat.le_of_ble_eq_true rfl) (fun p e s m args below meth c A q hA X hr hlk hnm hZ => ?_)
  refine g_aload_n X dX0_init_0 0 rfl rfl ?_
  refine g_obj X ko_X0 ko_i ko_c ⟨Nat.le_of_ble_eq_true rfl, Nat.le_of_ble_eq_true rfl⟩ dX0_init_1 ?_
  refine g_aload_n X dX0_init_4 0 rfl rfl ?_
  refine g_bipush X (v := nI 12) dX0_init_5 (by decide) ?_
  refine gE_newi X 12 (by omega) ka_int ⟨Nat.le_of_ble_eq_true rfl, Nat.le_of_ble_eq_true rfl⟩ dX0_init_7 (fun q1 => ?_)
  refine gE_putF X 0 (by omega) ku_X0 tyX0 tyX0_ok nmX0 (fs := _) rfl kv_X0 0 (by omega) kg_X0_9 rfl hnm rfl (ty := .array .int) (by decide +kernel) rfl rfl (Nat.le_of_ble_eq_true rfl) dX0_init_9 ?_
  refine g_aload_n X dX0_init_12 0 rfl rfl ?_
  refine g_bipush X (v := nI 12) dX0_init_13 (by decide) ?_
  refine gE_newi X 12 (by omega) ka_int ⟨Nat.le_of_ble_eq_true rfl, Nat.le_of_ble_eq_true rfl⟩ dX0_init_15 (fun q2 => ?_)
  refine gE_putF X 0 (by omega) ku_X0 tyX0 tyX0_ok nmX0 (fs := _) rfl kv_X0 1 (by omega) kg_X0_15 rfl hnm rfl (ty := .array .int) (by decide +kernel) rfl rfl (Nat.le_of_ble_eq_true rfl) dX0_init_17 ?_
  refine g_aload_n X dX0_init_20 0 rfl rfl ?_
  refine g_bipush X (v := nI 12) dX0_init_21 (by decide) ?_
  refine gE_newz X 12 (by omega) ka_bool ⟨Nat.le_of_ble_eq_true rfl, Nat.le_of_ble_eq_true rfl⟩ dX0_init_23 (fun q3 => ?_)
  refine gE_putF X 0 (by omega) ku_X0 tyX0 tyX0_ok nmX0 (fs := _) rfl kv_X0 2 (by omega) kg_X0_18 rfl hnm rfl (ty := .array .boolean) (by decide +kernel) rfl rfl (Nat.le_of_ble_eq_true rfl) dX0_init_25 ?_
  refine g_aload_n X dX0_init_28 0 rfl rfl ?_
  refine g_bipush X (v := nI 12) dX0_init_29 (by decide) ?_
  refine gE_newz X 12 (by omega) ka_bool ⟨Nat.le_of_ble_eq_true rfl, Nat.le_of_ble_eq_true rfl⟩ dX0_init_31 (fun q4 => ?_)
  refine gE_putF X 0 (by omega) ku_X0 tyX0 tyX0_ok nmX0 (fs := _) rfl kv_X0 3 (by omega) kg_X0_22 rfl hnm rfl (ty := .array .boolean) (by decide +kernel) rfl rfl (Nat.le_of_ble_eq_true rfl) dX0_init_33 ?_
  exact gE_ret X hr hlk q hA (xAd (xAd (xAd (xAd (fun _ => q) 1 q1) 2 q2) 3 q3) 4 q4) rfl 5 (fun k => k) (fun k hk => by rcases (show k = 0 ∨ k = 1 ∨ k = 2 ∨ k = 3 ∨ k = 4 by omega) with rfl | rfl | rfl | rfl | rfl <;> exact ⟨Nat.le_of_ble_eq_true rfl, rfl, Or.inl rfl⟩) (fun i j _ _ h => h) (Nat.le_of_ble_eq_true rfl) (Nat.le_of_ble_eq_true rfl) dX0_init_36
set_option maxRecDepth 4000 in
theorem c_X1_init (l : Launch) (D : va_G) (cy : Nat → ClassId) : gMC l yX1_init cX1_init 1 { frames := 1, cells := 1, slots := 6, locals := 20 } D cy 1 [.null, .int 0, .int 0, .int 0] 2 (fun u => czX1 u cy) 1 6 [] := by
  refine gMC_of RX1 rfl (by decide +kernel) (Nat.le_of_ble_eq_true rfl) (fun p e s m args below meth c A q hA X hr hlk hnm hZ => ?_)
  refine g_aload_n X dX1_init_0 0 rfl rfl ?_
  refine g_obj X ko_X1 ko_i ko_c ⟨Nat.le_of_ble_eq_true rfl, Nat.le_of_ble_eq_true rfl⟩ dX1_init_1 ?_
  refine g_aload_n X dX1_init_4 0 rfl rfl ?_
  refine g_bipush X (v := nI 6) dX1_init_5 (by decide) ?_
  refine gE_newi X 6 (by omega) ka_int ⟨Nat.le_of_ble_eq_true rfl, Nat.le_of_ble_eq_true rfl⟩ dX1_init_7 (fun q1 => ?_)
  refine gE_putF X 0 (by omega) ku_X1 tyX1 tyX1_ok nmX1 (fs := _) rfl kv_X1 0 (by omega) kg_X1_9 rfl hnm rfl (ty := .array .int) (by decide +kernel) rfl rfl (Nat.le_of_ble_eq_true rfl) dX1_init_9 ?_
  exact gE_ret X hr hlk q hA (xAd (fun _ => q) 1 q1) rfl 2 (fun k => k) (fun k hk => by rcases (show k = 0 ∨ k = 1 by omega) with rfl | rfl <;> exact ⟨Nat.le_of_ble_eq_true rfl, rfl, Or.inl rfl⟩) (fun i j _ _ h => h) (Nat.le_of_ble_eq_true rfl) (Nat.le_of_ble_eq_true rfl) dX1_init_12
set_option maxRecDepth 4000 in
theorem c_X2_init (l : Launch) (D : va_G) (cy : Nat → ClassId) : gMC l yX2_init cX2_init 1 { frames := 1, cells := 2, slots := 28, locals := 20 } D cy 2 [.null, .null, .int 0] 3 (fun u => czX2 u cy) 2 28 [] := by
  refine gMC_of RX2 rfl (by decide +kernel) (Nat.le_of_ble_eq_true rfl) (fun p e s m args below meth c A q hA X hr hlk hnm hZ => ?_)
  refine g_aload_n X dX2_init_0 0 rfl rfl ?_
  refine g_obj X ko_X2 ko_i ko_c ⟨Nat.le_of_ble_eq_true rfl, Nat.le_of_ble_eq_true rfl⟩ dX2_init_1 ?_
  refine g_aload_n X dX2_init_4 0 rfl rfl ?_
  refine g_bipush X (v := nI 16) dX2_init_5 (by decide) ?_
  refine gE_newi X 16 (by omega) ka_int ⟨Nat.le_of_ble_eq_true rfl, Nat.le_of_ble_eq_true rfl⟩ dX2_init_7 (fun q1 => ?_)
  refine gE_putF X 0 (by omega) ku_X2 tyX2 tyX2_ok nmX2 (fs := _) rfl kv_X2 0 (by omega) kg_X2_9 rfl hnm rfl (ty := .array .int) (by decide +kernel) rfl rfl (Nat.le_of_ble_eq_true rfl) dX2_init_9 ?_
  refine g_aload_n X dX2_init_12 0 rfl rfl ?_
  refine g_bipush X (v := nI 12) dX2_init_13 (by decide) ?_
  refine gE_newi X 12 (by omega) ka_int ⟨Nat.le_of_ble_eq_true rfl, Nat.le_of_ble_eq_true rfl⟩ dX2_init_15 (fun q2 => ?_)
  refine gE_putF X 0 (by omega) ku_X2 tyX2 tyX2_ok nmX2 (fs := _) rfl kv_X2 1 (by omega) kg_X2_15 rfl hnm rfl (ty := .array .int) (by decide +kernel) rfl rfl (Nat.le_of_ble_eq_true rfl) dX2_init_17 ?_
  exact gE_ret X hr hlk q hA (xAd (xAd (fun _ => q) 1 q1) 2 q2) rfl 3 (fun k => k) (fun k hk => by rcases (show k = 0 ∨ k = 1 ∨ k = 2 by omega) with rfl | rfl | rfl <;> exact ⟨Nat.le_of_ble_eq_true rfl, rfl, Or.inl rfl⟩) (fun i j _ _ h => h) (Nat.le_of_ble_eq_true rfl) (Nat.le_of_ble_eq_true rfl) dX2_init_20
def E1 (a : Nat → Nat) (cy : Nat → ClassId) (i k : Nat) : va_E :=
  if k = 0 then .inr (3, [.ref (a 1), .ref (a 6), .ref (a 11), .null, .null, .int 0, .int 0, .int 0, .int 0, .int 0])
  else if k < 6 then czX0 (fun j => a (1 + j)) cy (k - 1)
  else if k < 11 then czX0 (fun j => a (6 + j)) cy (k - 6)
  else if k = 11 then .inl (cy 2, 6, .inr (.inr (.inr (.inr (fun j => if j < i then some (a (12 + 3 * j)) else none)))))
  else czX2 (fun j => a (12 + 3 * ((k - 12) / 3) + j)) cy ((k - 12) % 3)
theorem E1_cg {a a' : Nat → Nat} {cy : Nat → ClassId} {i i' k : Nat} (h : ∀ j, j < 12 + 3 * i → a' j = a j) (hk : k < 12 + 3 * i) (hk1 : k ≠ 11) : E1 a cy i k = E1 a' cy i' k := by
  unfold E1
  by_cases h0 : k = 0
  · rw [if_pos h0, if_pos h0, h 1 (by omega), h 6 (by omega), h 11 (by omega)]
  · rw [if_neg h0, if_neg h0]
    by_cases h1 : k < 6
    · rw [if_pos h1, if_pos h1]
      exact czX0_cg (fun j hj => (h _ (by omega)).symm)
    · rw [if_neg h1, if_neg h1]
      by_cases h2 : k < 11
      · rw [if_pos h2, if_pos h2]
        exact czX0_cg (fun j hj => (h _ (by omega)).symm)
      · rw [if_neg h2, if_neg h2, if_neg hk1, if_neg hk1]
        exact czX2_cg (fun j hj => (h _ (by omega)).symm)
theorem E1_nx {a u : Nat → Nat} {cy : Nat → ClassId} {i q1 k : Nat} {x : va_E} (hu : u 0 = q1) (hk : k < 12 + 3 * i + 3) : uE (jE (12 + 3 * i) (uE (E1 a cy i) (12 + 3 * i) x) (czX2 u cy)) 11 (.inl (cy 2, 6, .inr (.inr (.inr (.inr (va_up (fun j => if j < i then some (a (12 + 3 * j)) else none) i (some (jA (12 + 3 * i) (xAd a (12 + 3 * i) q1) u (12 + 3 * i))))))))) k = E1 (jA (12 + 3 * i) (xAd a (12 + 3 * i) q1) u) cy (i + 1) k := by
  have ha : ∀ j, j < 12 + 3 * i → jA (12 + 3 * i) (xAd a (12 + 3 * i) q1) u j = a j := fun j hj => by
    simp only [jA, xAd]
    rw [if_pos hj, if_neg (by omega)]
  have hb : ∀ j, jA (12 + 3 * i) (xAd a (12 + 3 * i) q1) u (12 + 3 * i + j) = u j := fun j => by
    simp only [jA]
    rw [if_neg (by omega)]
    congr 1
    omega
  generalize jA (12 + 3 * i) (xAd a (12 + 3 * i) q1) u = a' at ha hb ⊢
  simp only [uE, jE]
  by_cases h11 : k = 11
  · rw [if_pos h11]
    subst h11
    simp only [E1]
    rw [if_neg (by omega), if_neg (by omega), if_neg (by omega), if_pos trivial]
    refine congrArg (fun f : Nat → Option Nat => (.inl (cy 2, 6, .inr (.inr (.inr (.inr f)))) : va_E)) (funext fun j => ?_)
    simp only [va_up]
    by_cases hj : j = i
    · subst hj
      rw [if_pos rfl, if_pos (by omega)]
    · rw [if_neg hj]
      by_cases hj2 : j < i
      · rw [if_pos hj2, if_pos (by omega), ha _ (by omega)]
      · rw [if_neg hj2, if_neg (by omega)]
  · rw [if_neg h11]
    by_cases hk2 : k < 12 + 3 * i
    · rw [if_pos hk2, if_neg (by omega)]
      exact E1_cg ha hk2 h11
    · rw [if_neg hk2]
      simp only [E1]
      rw [if_neg (by omega), if_neg (by omega), if_neg (by omega), if_neg h11, show k - (12 + 3 * i) = (k - 12) % 3 by omega]
      refine czX2_cg (fun j hj => ?_)
      rw [show (k - 12) / 3 = i by omega]
      exact (hb j).symm
def E2 (a : Nat → Nat) (cy : Nat → ClassId) (i k : Nat) : va_E :=
  if k = 0 then .inr (3, [.ref (a 1), .ref (a 6), .ref (a 11), .ref (a 30), .null, .int 0, .int 0, .int 0, .int 0, .int 0])
  else if k < 30 then E1 a cy 6 k
  else if k = 30 then .inl (cy 3, 8, .inr (.inr (.inr (.inr (fun j => if j < i then some (a (31 + 2 * j)) else none)))))
  else czX1 (fun j => a (31 + 2 * ((k - 31) / 2) + j)) cy ((k - 31) % 2)
theorem E1_cg6 {a a' : Nat → Nat} {cy : Nat → ClassId} {k : Nat} (h : ∀ j, j < 30 → a' j = a j) (hk : k < 30) : E1 a cy 6 k = E1 a' cy 6 k := by
  by_cases h11 : k = 11
  · subst h11
    simp only [E1]
    rw [if_neg (by omega), if_neg (by omega), if_neg (by omega), if_pos trivial, if_neg (by omega), if_neg (by omega), if_neg (by omega), if_pos trivial]
    refine congrArg (fun f : Nat → Option Nat => (.inl (cy 2, 6, .inr (.inr (.inr (.inr f)))) : va_E)) (funext fun j => ?_)
    by_cases hj : j < 6
    · rw [if_pos hj, if_pos hj, h _ (by omega)]
    · rw [if_neg hj, if_neg hj]
  · exact E1_cg h hk h11
theorem E2_nx {a u : Nat → Nat} {cy : Nat → ClassId} {i q1 k : Nat} {x : va_E} (hu : u 0 = q1) (hk : k < 31 + 2 * i + 2) : uE (jE (31 + 2 * i) (uE (E2 a cy i) (31 + 2 * i) x) (czX1 u cy)) 30 (.inl (cy 3, 8, .inr (.inr (.inr (.inr (va_up (fun j => if j < i then some (a (31 + 2 * j)) else none) i (some (jA (31 + 2 * i) (xAd a (31 + 2 * i) q1) u (31 + 2 * i))))))))) k = E2 (jA (31 + 2 * i) (xAd a (31 + 2 * i) q1) u) cy (i + 1) k := by
  have ha : ∀ j, j < 31 + 2 * i → jA (31 + 2 * i) (xAd a (31 + 2 * i) q1) u j = a j := fun j hj => by
    simp only [jA, xAd]
    rw [if_pos hj, if_neg (by omega)]
  have hb : ∀ j, jA (31 + 2 * i) (xAd a (31 + 2 * i) q1) u (31 + 2 * i + j) = u j := fun j => by
    simp only [jA]
    rw [if_neg (by omega)]
    congr 1
    omega
  generalize jA (31 + 2 * i) (xAd a (31 + 2 * i) q1) u = a' at ha hb ⊢
  simp only [uE, jE]
  by_cases h11 : k = 30
  · rw [if_pos h11]
    subst h11
    simp only [E2]
    rw [if_neg (by omega), if_neg (by omega), if_pos trivial]
    refine congrArg (fun f : Nat → Option Nat => (.inl (cy 3, 8, .inr (.inr (.inr (.inr f)))) : va_E)) (funext fun j => ?_)
    simp only [va_up]
    by_cases hj : j = i
    · subst hj
      rw [if_pos rfl, if_pos (by omega)]
    · rw [if_neg hj]
      by_cases hj2 : j < i
      · rw [if_pos hj2, if_pos (by omega), ha _ (by omega)]
      · rw [if_neg hj2, if_neg (by omega)]
  · rw [if_neg h11]
    by_cases hk2 : k < 31 + 2 * i
    · rw [if_pos hk2, if_neg (by omega)]
      simp only [E2]
      by_cases h0 : k = 0
      · rw [if_pos h0, if_pos h0, ha 1 (by omega), ha 6 (by omega), ha 11 (by omega), ha 30 (by omega)]
      · rw [if_neg h0, if_neg h0]
        by_cases h1 : k < 30
        · rw [if_pos h1, if_pos h1]
          exact E1_cg6 (fun j hj => ha j (by omega)) h1
        · rw [if_neg h1, if_neg h1, if_neg h11, if_neg h11]
          exact czX1_cg (fun j hj => (ha _ (by omega)).symm)
    · rw [if_neg hk2]
      simp only [E2]
      rw [if_neg (by omega), if_neg (by omega), if_neg h11, show k - (31 + 2 * i) = (k - 31) % 2 by omega]
      refine czX1_cg (fun j hj => ?_)
      rw [show (k - 31) / 2 = i by omega]
      exact (hb j).symm
theorem x3_l1 {p : Program} {l : Launch} {e : Env} {s : State} {m : MethodId} {args : Array Value} {below : List Frame} {meth : Method} {c : Code} {Q : State → Prop} {Ts : List Cond} {D : va_G} {cy : Nat → ClassId} {A : Nat → Prop} {q : Nat} (X : gX p m c cX3_init 2 s args Ts RX3 D cy A) (hnm : meth.name = yX3_init.name)
    (kk : ∀ a : Nat → Nat, a 0 = q → GW p l e { frames := 2, cells := 47, slots := 391, locals := 60 } s m args below meth c Q 2 D A (12 + 3 * 6) a (cE (E1 a cy 6)) z0 (11 + 3 * 6) (110 + 31 * 6) 62 [(1, .int (nI 6)), (0, .ref q)] []) : ∀ f i : Nat, i + f = 6 → ∀ a : Nat → Nat, a 0 = q → GW p l e { frames := 2, cells := 47, slots := 391, locals := 60 } s m args below meth c Q 2 D A (12 + 3 * i) a (cE (E1 a cy i)) z0 (11 + 3 * i) (110 + 31 * i) 37 [(1, .int (nI i)), (0, .ref q)] [] := by
  intro f
  induction f with
  | zero =>
    intro i hi a h0
    obtain rfl : i = 6 := by omega
    refine g_iload_n X dX3_init_37 0 rfl rfl ?_
    refine g_bipush X (v := nI 6) dX3_init_38 (by decide) ?_
    refine g_icmp_geN X 6 6 62 (by omega) (by omega) dX3_init_40 (by decide) (fun _ => ?_) (fun h => ?_)
    · exact kk a h0
    · omega
  | succ f ih =>
    intro i hi a h0
    refine g_iload_n X dX3_init_37 0 rfl rfl ?_
    refine g_bipush X (v := nI 6) dX3_init_38 (by decide) ?_
    refine g_icmp_geN X i 6 62 (by omega) (by omega) dX3_init_40 (by decide) (fun h => ?_) (fun h => ?_)
    · omega
    refine g_aload_n X dX3_init_43 1 rfl rfl ?_
    rw [← h0]
    refine g_getr X 0 (by omega) 2 (by decide) ku_X3 kv_X3 kf_X3_21 rfl (k2 := 11) (fun r => ⟨_, rfl, rfl⟩) dX3_init_44 ?_
    rw [h0]
    refine g_iload_n X dX3_init_47 0 rfl rfl ?_
    refine gE_new X ku_X2 tyX2 tyX2_ok kC_X3_19 kN_X2 ki_X2 kv_X2 [.null, .null, .int 0] (fun j hj => by rcases (show j = 0 ∨ j = 1 ∨ j = 2 by omega) with rfl | rfl | rfl <;> rfl) ⟨by show 11 + 3 * i + 1 ≤ 47; omega, by show 110 + 31 * i + 3 ≤ 391; omega⟩ dX3_init_48 (fun q1 => ?_)
    refine g_dup X dX3_init_51 rfl ?_
    refine gE_ctorN X rfl (c_X2_init l D cy) (fun _ h => by cases h) kM_X3_25 rfl kj_X2_init ki_X2 kc_X2_init (by decide +kernel) ⟨rfl, rfl, Nat.le_of_ble_eq_true rfl, Nat.le_of_ble_eq_true rfl⟩ (by simp [uE]) (Nat.le_of_ble_eq_true rfl) dX3_init_52 ⟨by show 11 + 3 * i + 1 + 2 ≤ 47; omega, by show 110 + 31 * i + 3 + 28 ≤ 391; omega⟩ (fun u hu => ?_)
    have hq1 : u 0 = q1 := by rw [hu]; simp [xAd]
    have e1 : jA (12 + 3 * i) (xAd a (12 + 3 * i) q1) u (12 + 3 * i) = xAd a (12 + 3 * i) q1 (12 + 3 * i) := by simp [jA, xAd, hq1]
    have e2 : jA (12 + 3 * i) (xAd a (12 + 3 * i) q1) u 11 = a 11 := by
      simp only [jA, xAd]
      rw [if_pos (by omega), if_neg (by omega)]
    rw [← e1, ← e2]
    refine gE_ast X 2 11 (12 + 3 * i) i 6 (by omega) (by omega) (f := fun j => if j < i then some (a (12 + 3 * j)) else none) (by simp only [jE, uE]; rw [if_pos (by omega), if_neg (by omega)]; rfl) (by simp only [jE]; rw [if_neg (by omega), Nat.sub_self]; rfl) kv_X2 rfl (by omega) (by omega) dX3_init_55 ?_
    refine g_iinc X (nI (i + 1)) [(1, .int (nI (i + 1))), (0, .ref q)] 0 dX3_init_56 rfl (nI_1 i) (by omega) rfl ?_
    refine g_goto X 37 dX3_init_59 (by decide) ?_
    refine gE_cg (fun k hk => ⟨rfl, E1_nx hq1 hk⟩) ?_
    have := ih (i + 1) (by omega) (jA (12 + 3 * i) (xAd a (12 + 3 * i) q1) u) (by simp only [jA, xAd]; rw [if_pos (by omega), if_neg (by omega)]; exact h0)
    exact this
theorem x3_l2 {p : Program} {l : Launch} {e : Env} {s : State} {m : MethodId} {args : Array Value} {below : List Frame} {meth : Method} {c : Code} {Q : State → Prop} {Ts : List Cond} {D : va_G} {cy : Nat → ClassId} {A : Nat → Prop} {q : Nat} (X : gX p m c cX3_init 2 s args Ts RX3 D cy A) (hnm : meth.name = yX3_init.name)
    (kk : ∀ a : Nat → Nat, a 0 = q → GW p l e { frames := 2, cells := 47, slots := 391, locals := 60 } s m args below meth c Q 2 D A (31 + 2 * 8) a (cE (E2 a cy 8)) z0 (30 + 2 * 8) (304 + 10 * 8) 98 [(1, .int (nI 8)), (0, .ref q)] []) : ∀ f i : Nat, i + f = 8 → ∀ a : Nat → Nat, a 0 = q → GW p l e { frames := 2, cells := 47, slots := 391, locals := 60 } s m args below meth c Q 2 D A (31 + 2 * i) a (cE (E2 a cy i)) z0 (30 + 2 * i) (304 + 10 * i) 73 [(1, .int (nI i)), (0, .ref q)] [] := by
  intro f
  induction f with
  | zero =>
    intro i hi a h0
    obtain rfl : i = 8 := by omega
    refine g_iload_n X dX3_init_73 0 rfl rfl ?_
    refine g_bipush X (v := nI 8) dX3_init_74 (by decide) ?_
    refine g_icmp_geN X 8 8 98 (by omega) (by omega) dX3_init_76 (by decide) (fun _ => ?_) (fun h => ?_)
    · exact kk a h0
    · omega
  | succ f ih =>
    intro i hi a h0
    refine g_iload_n X dX3_init_73 0 rfl rfl ?_
    refine g_bipush X (v := nI 8) dX3_init_74 (by decide) ?_
    refine g_icmp_geN X i 8 98 (by omega) (by omega) dX3_init_76 (by decide) (fun h => ?_) (fun h => ?_)
    · omega
    refine g_aload_n X dX3_init_79 1 rfl rfl ?_
    rw [← h0]
    refine g_getr X 0 (by omega) 3 (by decide) ku_X3 kv_X3 kf_X3_28 rfl (k2 := 30) (fun r => ⟨_, rfl, rfl⟩) dX3_init_80 ?_
    rw [h0]
    refine g_iload_n X dX3_init_83 0 rfl rfl ?_
    refine gE_new X ku_X1 tyX1 tyX1_ok kC_X3_26 kN_X1 ki_X1 kv_X1 [.null, .int 0, .int 0, .int 0] (fun j hj => by rcases (show j = 0 ∨ j = 1 ∨ j = 2 ∨ j = 3 by omega) with rfl | rfl | rfl | rfl <;> rfl) ⟨by show 30 + 2 * i + 1 ≤ 47; omega, by show 304 + 10 * i + 4 ≤ 391; omega⟩ dX3_init_84 (fun q1 => ?_)
    refine g_dup X dX3_init_87 rfl ?_
    refine gE_ctorN X rfl (c_X1_init l D cy) (fun _ h => by cases h) kM_X3_32 rfl kj_X1_init ki_X1 kc_X1_init (by decide +kernel) ⟨rfl, rfl, Nat.le_of_ble_eq_true rfl, Nat.le_of_ble_eq_true rfl⟩ (by simp [uE]) (Nat.le_of_ble_eq_true rfl) dX3_init_88 ⟨by show 30 + 2 * i + 1 + 1 ≤ 47; omega, by show 304 + 10 * i + 4 + 6 ≤ 391; omega⟩ (fun u hu => ?_)
    have hq1 : u 0 = q1 := by rw [hu]; simp [xAd]
    have e1 : jA (31 + 2 * i) (xAd a (31 + 2 * i) q1) u (31 + 2 * i) = xAd a (31 + 2 * i) q1 (31 + 2 * i) := by simp [jA, xAd, hq1]
    have e2 : jA (31 + 2 * i) (xAd a (31 + 2 * i) q1) u 30 = a 30 := by
      simp only [jA, xAd]
      rw [if_pos (by omega), if_neg (by omega)]
    rw [← e1, ← e2]
    refine gE_ast X 3 30 (31 + 2 * i) i 8 (by omega) (by omega) (f := fun j => if j < i then some (a (31 + 2 * j)) else none) (by simp only [jE, uE]; rw [if_pos (by omega), if_neg (by omega)]; rfl) (by simp only [jE]; rw [if_neg (by omega), Nat.sub_self]; rfl) kv_X1 rfl (by omega) (by omega) dX3_init_91 ?_
    refine g_iinc X (nI (i + 1)) [(1, .int (nI (i + 1))), (0, .ref q)] 0 dX3_init_92 rfl (nI_1 i) (by omega) rfl ?_
    refine g_goto X 73 dX3_init_95 (by decide) ?_
    refine gE_cg (fun k hk => ⟨rfl, E2_nx hq1 hk⟩) ?_
    have := ih (i + 1) (by omega) (jA (31 + 2 * i) (xAd a (31 + 2 * i) q1) u) (by simp only [jA, xAd]; rw [if_pos (by omega), if_neg (by omega)]; exact h0)
    exact this
set_option maxRecDepth 4000 in
theorem c_X3_init (l : Launch) (D : va_G) (cy : Nat → ClassId) : gMC l yX3_init cX3_init 2 { frames := 2, cells := 47, slots := 391, locals := 60 } D cy 3 [.null, .null, .null, .null, .null, .int 0, .int 0, .int 0, .int 0, .int 0] 48 (fun u k => cC u cy k (i0C k)) 47 391 [RX2, RX1] := by
  refine gMC_of RX3 rfl (by decide +kernel) (Nat.le_of_ble_eq_true rfl) (fun p e s m args below meth c A q hA X hr hlk hnm hZ => ?_)
  refine g_aload_n X dX3_init_0 0 rfl rfl ?_
  refine g_obj X ko_X3 ko_i ko_c ⟨Nat.le_of_ble_eq_true rfl, Nat.le_of_ble_eq_true rfl⟩ dX3_init_1 ?_
  refine g_aload_n X dX3_init_4 0 rfl rfl ?_
  refine gE_new X ku_X0 tyX0 tyX0_ok kC_X3_7 kN_X0 ki_X0 kv_X0 [.null, .null, .null, .null] (fun j hj => by rcases (show j = 0 ∨ j = 1 ∨ j = 2 ∨ j = 3 by omega) with rfl | rfl | rfl | rfl <;> rfl) ⟨Nat.le_of_ble_eq_true rfl, Nat.le_of_ble_eq_true rfl⟩ dX3_init_5 (fun q1 => ?_)
  refine g_dup X dX3_init_8 rfl ?_
  refine gE_ctorN X rfl (c_X0_init l D cy) (fun _ h => by cases h) kM_X3_9 rfl kj_X0_init ki_X0 kc_X0_init (by decide +kernel) ⟨rfl, rfl, Nat.le_of_ble_eq_true rfl, Nat.le_of_ble_eq_true rfl⟩ rfl (Nat.le_of_ble_eq_true rfl) dX3_init_9 ⟨Nat.le_of_ble_eq_true rfl, Nat.le_of_ble_eq_true rfl⟩ (fun u1 hu1 => ?_)
  rw [← hu1]
  refine gE_putF X 0 (by omega) ku_X3 tyX3 tyX3_ok nmX3 (fs := _) rfl kv_X3 0 (by omega) kg_X3_10 rfl hnm rfl (ty := .object "StreetOrgans$Pipes") (by decide +kernel) rfl rfl (Nat.le_of_ble_eq_true rfl) dX3_init_12 ?_
  refine g_aload_n X dX3_init_15 0 rfl rfl ?_
  refine gE_new X ku_X0 tyX0 tyX0_ok kC_X3_7 kN_X0 ki_X0 kv_X0 [.null, .null, .null, .null] (fun j hj => by rcases (show j = 0 ∨ j = 1 ∨ j = 2 ∨ j = 3 by omega) with rfl | rfl | rfl | rfl <;> rfl) ⟨Nat.le_of_ble_eq_true rfl, Nat.le_of_ble_eq_true rfl⟩ dX3_init_16 (fun q6 => ?_)
  refine g_dup X dX3_init_19 rfl ?_
  refine gE_ctorN X rfl (c_X0_init l D cy) (fun _ h => by cases h) kM_X3_9 rfl kj_X0_init ki_X0 kc_X0_init (by decide +kernel) ⟨rfl, rfl, Nat.le_of_ble_eq_true rfl, Nat.le_of_ble_eq_true rfl⟩ rfl (Nat.le_of_ble_eq_true rfl) dX3_init_20 ⟨Nat.le_of_ble_eq_true rfl, Nat.le_of_ble_eq_true rfl⟩ (fun u6 hu6 => ?_)
  rw [← hu6]
  refine gE_putF X 0 (by omega) ku_X3 tyX3 tyX3_ok nmX3 (fs := _) rfl kv_X3 1 (by omega) kg_X3_16 rfl hnm rfl (ty := .object "StreetOrgans$Pipes") (by decide +kernel) rfl rfl (Nat.le_of_ble_eq_true rfl) dX3_init_23 ?_
  refine g_aload_n X dX3_init_26 0 rfl rfl ?_
  refine g_bipush X (v := nI 6) dX3_init_27 (by decide) ?_
  refine gE_nq X 2 6 (by omega) kC_X3_19 (hZ RX2 (by decide)) rfl ⟨Nat.le_of_ble_eq_true rfl, Nat.le_of_ble_eq_true rfl⟩ dX3_init_29 (fun q11 => ?_)
  refine gE_putF X 0 (by omega) ku_X3 tyX3 tyX3_ok nmX3 (fs := _) rfl kv_X3 2 (by omega) kg_X3_21 rfl hnm rfl (ty := .array (.object "StreetOrgans$Tune")) (by decide +kernel) rfl rfl (Nat.le_of_ble_eq_true rfl) dX3_init_32 ?_
  refine g_iconst X (v := nI 0) dX3_init_35 (by decide) ?_
  refine g_istore_n X [(1, .int (nI 0)), (0, .ref q)] dX3_init_36 rfl (by omega) rfl ?_
  refine gE_cg (ad' := (xAd (jA 6 (xAd (jA 1 (xAd (fun _ => q) 1 q1) u1) 6 q6) u6) 11 q11)) (E' := E1 (xAd (jA 6 (xAd (jA 1 (xAd (fun _ => q) 1 q1) u1) 6 q6) u6) 11 q11) cy 0) (fun k hk => ⟨rfl, ?_⟩) ?_
  · rcases (show k = 0 ∨ k = 1 ∨ k = 2 ∨ k = 3 ∨ k = 4 ∨ k = 5 ∨ k = 6 ∨ k = 7 ∨ k = 8 ∨ k = 9 ∨ k = 10 ∨ k = 11 by omega) with rfl | rfl | rfl | rfl | rfl | rfl | rfl | rfl | rfl | rfl | rfl | rfl <;> rfl
  refine x3_l1 X hnm (fun a h0 => ?_) 6 0 rfl _ rfl
  refine g_aload_n X dX3_init_62 1 rfl rfl ?_
  refine g_bipush X (v := nI 8) dX3_init_63 (by decide) ?_
  refine gE_nq X 3 8 (by omega) kC_X3_26 (hZ RX1 (by decide)) rfl ⟨Nat.le_of_ble_eq_true rfl, Nat.le_of_ble_eq_true rfl⟩ dX3_init_65 (fun q30 => ?_)
  have h0b : xAd a 30 q30 0 = q := h0
  rw [← h0b]
  refine gE_putF X 0 (by omega) ku_X3 tyX3 tyX3_ok nmX3 (fs := _) rfl kv_X3 3 (by omega) kg_X3_28 rfl hnm rfl (ty := .array (.object "StreetOrgans$Street")) (by decide +kernel) rfl rfl (Nat.le_of_ble_eq_true rfl) dX3_init_68 ?_
  rw [h0b]
  refine g_iconst X (v := nI 0) dX3_init_71 (by decide) ?_
  refine g_istore_n X [(1, .int (nI 0)), (0, .ref q)] dX3_init_72 rfl (by omega) rfl ?_
  refine gE_cg (ad' := xAd a 30 q30) (E' := E2 (xAd a 30 q30) cy 0) (fun k hk => ⟨rfl, ?_⟩) ?_
  · have hk : k < 31 := hk
    by_cases h30 : k = 30
    · subst h30; rfl
    · by_cases hk0 : k = 0
      · subst hk0; rfl
      · simp only [uE, E2]
        rw [if_neg hk0, if_neg h30, if_neg hk0, if_pos (by omega)]
        exact E1_cg6 (fun j hj => by simp only [xAd]; rw [if_neg (by omega)]) (by omega)
  refine x3_l2 X hnm (fun a h0 => ?_) 8 0 rfl _ h0b
  refine g_aload_n X dX3_init_98 1 rfl rfl ?_
  refine g_bipush X (v := nI 7) dX3_init_99 (by decide) ?_
  refine gE_newi X 7 (by omega) ka_int ⟨Nat.le_of_ble_eq_true rfl, Nat.le_of_ble_eq_true rfl⟩ dX3_init_101 (fun q47 => ?_)
  have h0c : xAd a 47 q47 0 = q := h0
  rw [← h0c]
  refine gE_putF X 0 (by omega) ku_X3 tyX3 tyX3_ok nmX3 (fs := _) rfl kv_X3 4 (by omega) kg_X3_33 rfl hnm rfl (ty := .array .int) (by decide +kernel) rfl rfl (Nat.le_of_ble_eq_true rfl) dX3_init_103 ?_
  rw [h0c]
  refine g_aload_n X dX3_init_106 1 rfl rfl ?_
  refine g_bipush X (v := nI 20) dX3_init_107 (by decide) ?_
  rw [← h0c]
  refine gE_put X 0 (by omega) ku_X3 tyX3 tyX3_ok nmX3 (fs := _) rfl kv_X3 8 (by omega) kg_X3_37 rfl (ty := .int) (by decide +kernel) rfl rfl (Nat.le_of_ble_eq_true rfl) dX3_init_109 ?_
  rw [h0c]
  have hgi : ∀ i j, i < 48 → j < 48 → (if i ≤ 11 then i else if i = 12 then 30 else if i = 13 then 47 else if i < 32 then i - 2 else i - 1) = (if j ≤ 11 then j else if j = 12 then 30 else if j = 13 then 47 else if j < 32 then j - 2 else j - 1) → i = j := fun i j hi hj h => by
    split at h <;> split at h <;> (try split at h) <;> (try split at h) <;> (try split at h) <;> (try split at h) <;> (try split at h) <;> (try split at h) <;> omega
  refine gE_ret X hr hlk q hA (fun k => xAd a 47 q47 (if k ≤ 11 then k else if k = 12 then 30 else if k = 13 then 47 else if k < 32 then k - 2 else k - 1)) h0c 48 (fun k => if k ≤ 11 then k else if k = 12 then 30 else if k = 13 then 47 else if k < 32 then k - 2 else k - 1) (fun k hk => ⟨?_, rfl, ?_⟩) hgi (by exact Nat.le_of_ble_eq_true rfl) (by exact Nat.le_of_ble_eq_true rfl) dX3_init_112
  · show (if k ≤ 11 then k else if k = 12 then 30 else if k = 13 then 47 else if k < 32 then k - 2 else k - 1) < 48
    split
    · omega
    · split
      · omega
      · split
        · omega
        · split <;> omega
  · by_cases h11 : k = 11
    · subst h11
      refine Or.inr ⟨cy 2, 6, _, _, rfl, rfl, fun j hj => ?_⟩
      rcases (show j = 0 ∨ j = 1 ∨ j = 2 ∨ j = 3 ∨ j = 4 ∨ j = 5 by omega) with rfl | rfl | rfl | rfl | rfl | rfl <;> rfl
    · by_cases h12 : k = 12
      · subst h12
        refine Or.inr ⟨cy 3, 8, _, _, rfl, rfl, fun j hj => ?_⟩
        rcases (show j = 0 ∨ j = 1 ∨ j = 2 ∨ j = 3 ∨ j = 4 ∨ j = 5 ∨ j = 6 ∨ j = 7 by omega) with rfl | rfl | rfl | rfl | rfl | rfl | rfl | rfl <;> rfl
      · refine Or.inl ?_
        rcases (show k = 0 ∨ k = 1 ∨ k = 2 ∨ k = 3 ∨ k = 4 ∨ k = 5 ∨ k = 6 ∨ k = 7 ∨ k = 8 ∨ k = 9 ∨ k = 10 ∨ k = 13 ∨ k = 14 ∨ k = 15 ∨ k = 16 ∨ k = 17 ∨ k = 18 ∨ k = 19 ∨ k = 20 ∨ k = 21 ∨ k = 22 ∨ k = 23 ∨ k = 24 ∨ k = 25 ∨ k = 26 ∨ k = 27 ∨ k = 28 ∨ k = 29 ∨ k = 30 ∨ k = 31 ∨ k = 32 ∨ k = 33 ∨ k = 34 ∨ k = 35 ∨ k = 36 ∨ k = 37 ∨ k = 38 ∨ k = 39 ∨ k = 40 ∨ k = 41 ∨ k = 42 ∨ k = 43 ∨ k = 44 ∨ k = 45 ∨ k = 46 ∨ k = 47 by omega) with rfl | rfl | rfl | rfl | rfl | rfl | rfl | rfl | rfl | rfl | rfl | rfl | rfl | rfl | rfl | rfl | rfl | rfl | rfl | rfl | rfl | rfl | rfl | rfl | rfl | rfl | rfl | rfl | rfl | rfl | rfl | rfl | rfl | rfl | rfl | rfl | rfl | rfl | rfl | rfl | rfl | rfl | rfl | rfl | rfl | rfl <;> rfl
end
section
/-! The Sim's cells: 0 the Sim; 1 worn, 2 off, 3 chirps, 4 sang, 5 tunes, 6 streets, 7 damp; from 8 on the streets, behind them the tunes -/
def cS (ad : Nat → Nat) (cy : Nat → ClassId) (S T : Nat) (Ln : Nat → Nat) (k : Nat) (r : Nat → Int32) : va_E :=
  if k = 0 then .inr (4, [.int (r 0), .int (r 1), .int (r 2), .ref (ad 1), .ref (ad 2), .ref (ad 3), .ref (ad 4), .ref (ad 5), .ref (ad 6), .ref (ad 7)])
  else if k = 1 ∨ k = 2 then .inl (cy 0, 12, .inl r)
  else if k = 3 ∨ k = 4 then .inl (cy 1, 12, .inl r)
  else if k = 5 then .inl (cy 4, T, .inr (.inr (.inr (.inr (fun i => some (ad (8 + S + i)))))))
  else if k = 6 then .inl (cy 4, S, .inr (.inr (.inr (.inr (fun i => some (ad (8 + i)))))))
  else if k = 7 then .inl (cy 0, 7, .inl r)
  else if k < 8 + S then .inl (cy 0, 9, .inl r)
  else .inl (cy 0, Ln (k - (8 + S)), .inl r)
/-- the Sim's rows, read off the class's -/
def sR (S : Nat) (ρ : gSt) : gSt := fun k j =>
  if k = 0 then (if j = 0 then ρ 0 7 else if j = 1 then ρ 0 8 else if j = 2 then ρ 0 9 else 0)
  else if k = 1 then ρ 2 j else if k = 2 then ρ 3 j else if k = 3 then ρ 4 j else if k = 4 then ρ 5 j
  else if k = 5 then 0 else if k = 6 then 0 else if k = 7 then ρ 13 j
  else if k < 8 + S then (if j = 0 then ρ (2 * k + 16) 1 else if j = 1 then ρ (2 * k + 16) 2 else if j = 2 then ρ (2 * k + 16) 3 else ρ (2 * k + 17) (j - 3))
  else if k < 14 + S then ρ (15 + 3 * (k - (8 + S))) j else 0
section LS
variable {ad : Nat → Nat} {cy : Nat → ClassId} {S T z t j : Nat} {Ln : Nat → Nat} {ρ : gSt} {v : Int32}
theorem lS_O : gOb (cS ad cy S T Ln) 0 4 := fun r => ⟨_, rfl⟩
theorem lS_day : gFI (cS ad cy S T Ln) 0 4 0 := fun r => ⟨_, rfl, rfl, Nat.le_of_ble_eq_true rfl, fun v => rfl⟩
theorem lS_coins : gFI (cS ad cy S T Ln) 0 4 1 := fun r => ⟨_, rfl, rfl, Nat.le_of_ble_eq_true rfl, fun v => rfl⟩
theorem lS_fines : gFI (cS ad cy S T Ln) 0 4 2 := fun r => ⟨_, rfl, rfl, Nat.le_of_ble_eq_true rfl, fun v => rfl⟩
theorem lS_worn : gFR (cS ad cy S T Ln) ad 0 4 3 1 := fun r => ⟨_, rfl, rfl⟩
theorem lS_off : gFR (cS ad cy S T Ln) ad 0 4 4 2 := fun r => ⟨_, rfl, rfl⟩
theorem lS_chirps : gFR (cS ad cy S T Ln) ad 0 4 5 3 := fun r => ⟨_, rfl, rfl⟩
theorem lS_sang : gFR (cS ad cy S T Ln) ad 0 4 6 4 := fun r => ⟨_, rfl, rfl⟩
theorem lS_tunes : gFR (cS ad cy S T Ln) ad 0 4 7 5 := fun r => ⟨_, rfl, rfl⟩
theorem lS_streets : gFR (cS ad cy S T Ln) ad 0 4 8 6 := fun r => ⟨_, rfl, rfl⟩
theorem lS_damp : gFR (cS ad cy S T Ln) ad 0 4 9 7 := fun r => ⟨_, rfl, rfl⟩
theorem lS_a1 : gAI (cS ad cy S T Ln) (cy 0) 1 12 := fun r => rfl
theorem lS_a2 : gAI (cS ad cy S T Ln) (cy 0) 2 12 := fun r => rfl
theorem lS_a3 : gAI (cS ad cy S T Ln) (cy 1) 3 12 := fun r => rfl
theorem lS_a4 : gAI (cS ad cy S T Ln) (cy 1) 4 12 := fun r => rfl
theorem lS_a7 : gAI (cS ad cy S T Ln) (cy 0) 7 7 := fun r => rfl
theorem lS_ts : gAR (cS ad cy S T Ln) ad (cy 4) 5 T (fun i => 8 + S + i) := fun r => ⟨_, rfl, fun i _ => rfl⟩
theorem lS_ss : gAR (cS ad cy S T Ln) ad (cy 4) 6 S (fun i => 8 + i) := fun r => ⟨_, rfl, fun i _ => rfl⟩
theorem lS_st (h : z < S) : gAI (cS ad cy S T Ln) (cy 0) (8 + z) 9 := fun r => by
  unfold cS
  rw [if_neg (by omega), if_neg (by omega), if_neg (by omega), if_neg (by omega), if_neg (by omega), if_neg (by omega), if_pos (by omega)]
theorem lS_tu : gAI (cS ad cy S T Ln) (cy 0) (8 + S + t) (Ln t) := fun r => by
  unfold cS
  rw [if_neg (by omega), if_neg (by omega), if_neg (by omega), if_neg (by omega), if_neg (by omega), if_neg (by omega), if_neg (by omega), show 8 + S + t - (8 + S) = t by omega]
theorem rS_day : sR S ρ 0 0 = ρ 0 7 := rfl
theorem rS_coins : sR S ρ 0 1 = ρ 0 8 := rfl
theorem rS_fines : sR S ρ 0 2 = ρ 0 9 := rfl
theorem rS_1 : sR S ρ 1 j = ρ 2 j := rfl
theorem rS_2 : sR S ρ 2 j = ρ 3 j := rfl
theorem rS_3 : sR S ρ 3 j = ρ 4 j := rfl
theorem rS_4 : sR S ρ 4 j = ρ 5 j := rfl
theorem rS_7 : sR S ρ 7 j = ρ 13 j := rfl
theorem rS_st (h : z < S) : sR S ρ (8 + z) j = if j = 0 then ρ (32 + 2 * z) 1 else if j = 1 then ρ (32 + 2 * z) 2 else if j = 2 then ρ (32 + 2 * z) 3 else ρ (33 + 2 * z) (j - 3) := by
  unfold sR
  rw [if_neg (by omega), if_neg (by omega), if_neg (by omega), if_neg (by omega), if_neg (by omega), if_neg (by omega), if_neg (by omega), if_neg (by omega), if_pos (by omega), show 2 * (8 + z) + 16 = 32 + 2 * z by omega, show 2 * (8 + z) + 17 = 33 + 2 * z by omega]
theorem rS_s0 (h : z < S) : sR S ρ (8 + z) 0 = ρ (32 + 2 * z) 1 := by rw [rS_st h, if_pos rfl]
theorem rS_s1 (h : z < S) : sR S ρ (8 + z) 1 = ρ (32 + 2 * z) 2 := by rw [rS_st h, if_neg (by omega), if_pos rfl]
theorem rS_s2 (h : z < S) : sR S ρ (8 + z) 2 = ρ (32 + 2 * z) 3 := by rw [rS_st h, if_neg (by omega), if_neg (by omega), if_pos rfl]
theorem rS_sh (h : z < S) : sR S ρ (8 + z) (3 + t) = ρ (33 + 2 * z) t := by rw [rS_st h, if_neg (by omega), if_neg (by omega), if_neg (by omega), show 3 + t - 3 = t by omega]
theorem rS_tu (h : t < 6) : sR S ρ (8 + S + t) j = ρ (15 + 3 * t) j := by
  unfold sR
  rw [if_neg (by omega), if_neg (by omega), if_neg (by omega), if_neg (by omega), if_neg (by omega), if_neg (by omega), if_neg (by omega), if_neg (by omega), if_neg (by omega), if_pos (by omega), show 8 + S + t - (8 + S) = t by omega]
theorem wS_day : up2 (sR S ρ) 0 0 v = sR S (up2 ρ 0 7 v) := by
  funext k j
  simp only [up2_e, sR]
  grind
theorem wS_coins : up2 (sR S ρ) 0 1 v = sR S (up2 ρ 0 8 v) := by
  funext k j
  simp only [up2_e, sR]
  grind
theorem wS_fines : up2 (sR S ρ) 0 2 v = sR S (up2 ρ 0 9 v) := by
  funext k j
  simp only [up2_e, sR]
  grind
theorem wS_1 : up2 (sR S ρ) 1 j v = sR S (up2 ρ 2 j v) := by
  funext a b
  simp only [up2_e, sR]
  grind
theorem wS_2 : up2 (sR S ρ) 2 j v = sR S (up2 ρ 3 j v) := by
  funext a b
  simp only [up2_e, sR]
  grind
theorem wS_3 : up2 (sR S ρ) 3 j v = sR S (up2 ρ 4 j v) := by
  funext a b
  simp only [up2_e, sR]
  grind
theorem wS_4 : up2 (sR S ρ) 4 j v = sR S (up2 ρ 5 j v) := by
  funext a b
  simp only [up2_e, sR]
  grind
theorem wS_7 : up2 (sR S ρ) 7 j v = sR S (up2 ρ 13 j v) := by
  funext a b
  simp only [up2_e, sR]
  grind
theorem wS_s1 (h : z < S) : up2 (sR S ρ) (8 + z) 1 v = sR S (up2 ρ (32 + 2 * z) 2 v) := by
  funext a b
  by_cases q : a = 8 + z
  · subst q
    rw [up2_e, rS_st h, rS_st h]
    simp only [up2_e]
    grind
  · rw [up2_k q]
    by_cases q2 : 8 ≤ a ∧ a < 8 + S
    · obtain ⟨y, rfl⟩ : ∃ y, a = 8 + y := ⟨a - 8, by omega⟩
      rw [rS_st (by omega), rS_st (by omega)]
      simp only [up2_e]
      grind
    · unfold sR
      simp only [up2_e]
      grind (splits := 30)
theorem wS_s2 (h : z < S) : up2 (sR S ρ) (8 + z) 2 v = sR S (up2 ρ (32 + 2 * z) 3 v) := by
  funext a b
  by_cases q : a = 8 + z
  · subst q
    rw [up2_e, rS_st h, rS_st h]
    simp only [up2_e]
    grind
  · rw [up2_k q]
    by_cases q2 : 8 ≤ a ∧ a < 8 + S
    · obtain ⟨y, rfl⟩ : ∃ y, a = 8 + y := ⟨a - 8, by omega⟩
      rw [rS_st (by omega), rS_st (by omega)]
      simp only [up2_e]
      grind
    · unfold sR
      simp only [up2_e]
      grind (splits := 30)
theorem wS_sh (h : z < S) : up2 (sR S ρ) (8 + z) (3 + t) v = sR S (up2 ρ (33 + 2 * z) t v) := by
  funext a b
  by_cases q : a = 8 + z
  · subst q
    rw [up2_e, rS_st h, rS_st h]
    simp only [up2_e]
    grind
  · rw [up2_k q]
    by_cases q2 : 8 ≤ a ∧ a < 8 + S
    · obtain ⟨y, rfl⟩ : ∃ y, a = 8 + y := ⟨a - 8, by omega⟩
      rw [rS_st (by omega), rS_st (by omega)]
      simp only [up2_e]
      grind
    · unfold sR
      simp only [up2_e]
      grind (splits := 30)
end LS
/-- the rows of sR alone count -/
theorem sR_cg {S : Nat} {ρ σ : gSt} (h0 : ∀ j, 7 ≤ j → ρ 0 j = σ 0 j) (h : ∀ k, (1 < k ∧ k ≤ 5) ∨ 13 ≤ k → ρ k = σ k) : sR S ρ = sR S σ := by
  funext k j
  simp only [sR]
  rw [h0 7 (by omega), h0 8 (by omega), h0 9 (by omega), h 2 (by omega), h 3 (by omega), h 4 (by omega), h 5 (by omega), h 13 (by omega)]
  by_cases q : k < 8
  · rcases (show k = 0 ∨ k = 1 ∨ k = 2 ∨ k = 3 ∨ k = 4 ∨ k = 5 ∨ k = 6 ∨ k = 7 by omega) with rfl | rfl | rfl | rfl | rfl | rfl | rfl | rfl <;> rfl
  · rw [h (2 * k + 16) (by omega), h (2 * k + 17) (by omega), h (15 + 3 * (k - (8 + S))) (by omega)]
/-! A front of cells, behind it a world -/
def jF {α : Type} (F : Nat) (f g : Nat → α) : Nat → α := fun k => if k < F then f k else g (k - F)
theorem jF_lo {α : Type} {F k : Nat} {f g : Nat → α} (h : k < F) : jF F f g k = f k := if_pos h
theorem jF_hi {α : Type} {F k : Nat} {f g : Nat → α} : jF F f g (F + k) = g k := by
  unfold jF
  rw [if_neg (by omega), show F + k - F = k by omega]
theorem gSub_fr {cz cz' : Nat → (Nat → Int32) → va_E} {ad ad' : Nat → Nat} {n n' off k ci j k2 : Nat} (hs : gSub n ad cz off n' ad' cz') (h : gFR cz' ad' k ci j k2) (hk : k < n') (hk2 : k2 < n') : gFR cz ad (off + k) ci j (off + k2) := fun r => by
  obtain ⟨fs, h1, h2⟩ := h r
  exact ⟨fs, by rw [← (hs.2 k hk).2 r]; exact h1, by rw [← (hs.2 k2 hk2).1]; exact h2⟩
theorem gSub_fi {cz cz' : Nat → (Nat → Int32) → va_E} {ad ad' : Nat → Nat} {n n' off k ci j : Nat} (hs : gSub n ad cz off n' ad' cz') (h : gFI cz' k ci j) (hk : k < n') : gFI cz (off + k) ci j := fun r => by
  obtain ⟨fs, h1, h2, h3, h4⟩ := h r
  exact ⟨fs, by rw [← (hs.2 k hk).2 r]; exact h1, h2, h3, fun v => by rw [← (hs.2 k hk).2]; exact h4 v⟩
theorem gSub_ob {cz cz' : Nat → (Nat → Int32) → va_E} {ad ad' : Nat → Nat} {n n' off k ci : Nat} (hs : gSub n ad cz off n' ad' cz') (h : gOb cz' k ci) (hk : k < n') : gOb cz (off + k) ci := fun r => by
  obtain ⟨fs, h1⟩ := h r
  exact ⟨fs, by rw [← (hs.2 k hk).2 r]; exact h1⟩
theorem gSub_ai {cz cz' : Nat → (Nat → Int32) → va_E} {ad ad' : Nat → Nat} {n n' off k len : Nat} {cA : ClassId} (hs : gSub n ad cz off n' ad' cz') (h : gAI cz' cA k len) (hk : k < n') : gAI cz cA (off + k) len := fun r => by rw [← (hs.2 k hk).2 r]; exact h r
theorem gSub_ar {cz cz' : Nat → (Nat → Int32) → va_E} {ad ad' : Nat → Nat} {n n' off k len : Nat} {cA : ClassId} {tgt : Nat → Nat} (hs : gSub n ad cz off n' ad' cz') (h : gAR cz' ad' cA k len tgt) (hk : k < n') (ht : ∀ i, i < len → tgt i < n') : gAR cz ad cA (off + k) len (fun i => off + tgt i) := fun r => by
  obtain ⟨f, h1, h2⟩ := h r
  exact ⟨f, by rw [← (hs.2 k hk).2 r]; exact h1, fun i hi => by rw [h2 i hi, (hs.2 _ (ht i hi)).1]⟩
theorem gSub_tr {cz cz' cz'' : Nat → (Nat → Int32) → va_E} {ad ad' ad'' : Nat → Nat} {n n' n'' off off' : Nat} (h : gSub n ad cz off n' ad' cz') (h' : gSub n' ad' cz' off' n'' ad'' cz'') : gSub n ad cz (off + off') n'' ad'' cz'' := ⟨by have := h.1; have := h'.1; omega, fun j hj => by
  obtain ⟨a1, a2⟩ := h'.2 j hj
  obtain ⟨b1, b2⟩ := h.2 (off' + j) (by have := h'.1; omega)
  rw [Nat.add_assoc]
  exact ⟨a1.trans b1, fun r => (a2 r).trans (b2 r)⟩⟩
/-- the class's cells and the Sim's -/
def aS (ad : Nat → Nat) : Nat → Nat := fun j => ad (48 + j)
def cW (ad : Nat → Nat) (cy : Nat → ClassId) (S T : Nat) (Ln : Nat → Nat) : Nat → (Nat → Int32) → va_E := jF 48 (cC ad cy) (cS (aS ad) cy S T Ln)
def wR (S : Nat) (ρa ρb : gSt) : gSt := jF 48 ρa (sR S ρb)
abbrev nW (F S T : Nat) : Nat := F + (48 + (8 + S + T))
section FW
variable {F S T : Nat} {Ln : Nat → Nat} {fa ad : Nat → Nat} {cy : Nat → ClassId} {fz : Nat → (Nat → Int32) → va_E} {ρa ρb : gSt}
theorem sub_F {n : Nat} {cz : Nat → (Nat → Int32) → va_E} : gSub (F + n) (jF F fa ad) (jF F fz cz) F n ad cz := ⟨Nat.le_refl _, fun j _ => ⟨jF_hi.symm, fun r => by rw [jF_hi]⟩⟩
theorem sub_C : gSub (48 + (8 + S + T)) ad (cW ad cy S T Ln) 0 48 ad (cC ad cy) := ⟨by omega, fun j hj => by
  rw [Nat.zero_add]
  exact ⟨rfl, fun r => by unfold cW; rw [jF_lo hj]⟩⟩
theorem sub_S : gSub (48 + (8 + S + T)) ad (cW ad cy S T Ln) 48 (8 + S + T) (aS ad) (cS (aS ad) cy S T Ln) := ⟨Nat.le_refl _, fun j _ => ⟨rfl, fun r => by unfold cW; rw [jF_hi]⟩⟩
theorem sub_FC : gSub (nW F S T) (jF F fa ad) (jF F fz (cW ad cy S T Ln)) F 48 ad (cC ad cy) := gSub_tr sub_F sub_C
theorem sub_FS : gSub (nW F S T) (jF F fa ad) (jF F fz (cW ad cy S T Ln)) (F + 48) (8 + S + T) (aS ad) (cS (aS ad) cy S T Ln) := gSub_tr sub_F sub_S
end FW
/-- an array's word that isn't kept of itself -/
def zAO (U : State) : Prop := (Cond.arrayOver (.array .int)).before #[] U = true
theorem zAO.moved {u U : State} (hvm : u.vm.Alike U.vm) (h : zAO u) : zAO U := by
  obtain ⟨comp, c, k, h1, h2, h3, h4, h5⟩ := arrayOverA_spec h
  obtain ⟨k', hk', he⟩ := hvm.2.2 _ _ h3
  have hbare : U.vm.bare = u.vm.bare := by first | exact hvm.bare_eq | exact hvm.bare_eq.symm
  have hi : (U.vm.classes.findIdx? fun (x : Class) => match x.kind with | .array component _ => component == comp | _ => false) = some c := (va_idx_bare U.vm comp).symm.trans (by rw [hbare]; exact (va_idx_bare u.vm comp).trans h2)
  have hkind : k'.kind = .array comp (.array .int) := by rw [he]; exact h4
  have f1 : U.vm.findClass (FieldType.array .int).toString = some comp := by rw [hvm.findClass]; exact h1
  have f2 : U.vm.findClass ("[" ++ (FieldType.array .int).toString) = some c := by rw [hvm.findClass]; exact h5
  unfold zAO Cond.before Cond.holds
  simp only [Cond.value]
  rw [f1, Option.bind_some]
  refine (congrArg (fun o : Option Nat => (o.bind (fun c => (U.vm.classes[c]?).map fun (k : Class) => match k.kind with | .array _ ty => decide (ty = FieldType.array .int) && decide (U.vm.findClass ("[" ++ (FieldType.array .int).toString) = some c) | _ => false) == some true)) hi).trans ?_
  simp [hk', hkind, f2]
/-! Contracts with the environment, of methods that don't throw where they are called -/
def gYI (l : Launch) (y : MethodName) (b : ByteArray) (nL : Nat) (ret : Option FieldType) (rm : Room) (D : va_G) (cy : Nat → ClassId) (n : Nat) (ad : Nat → Nat) (cz : Nat → (Nat → Int32) → va_E) (argv : List Value) (ρ : Nat → Nat → Int32) (post : Int32 → (Nat → Nat → Int32) → Prop) (mc ms : Nat) : Prop := ∀ sz : Nat, Met l y (Cond.code y b nL ret :: wAll) rm (gPx D cy n ad cz ρ argv sz) (va_Qi post (gB D n ad cz) (gA n ad sz)) mc ms (gA n ad sz)
section YI
variable {l : Launch} {y : MethodName} {b : ByteArray} {nL : Nat} {ret : Option FieldType} {rm : Room} {D : va_G} {cy : Nat → ClassId} {n : Nat} {ad : Nat → Nat} {cz : Nat → (Nat → Int32) → va_E} {argv : List Value} {ρ ρ2 : gSt} {v : Int32} {post post' : Int32 → gSt → Prop} {xp : String → Prop} {mc ms : Nat}
theorem gYI_X (h : gXI l y b nL ret rm D cy n ad cz argv ρ post xp mc ms) (hx : ∀ E, ¬ xp E) (hp : ∀ r ρ1, post r ρ1 → post' r ρ1) : gYI l y b nL ret rm D cy n ad cz argv ρ post' mc ms := fun sz => MetFree.mono (h sz) (fun _ _ q => q) (fun _ _ _ _ _ q => q) (fun a s o s' _ hq => by
  rcases hq with ⟨⟨⟨r, u, h1, h2, h3⟩, h4⟩, h5⟩ | ⟨q, -, E, ce, L, ⟨u, -, ⟨hE, -⟩, -⟩, -⟩
  · exact ⟨⟨⟨r, u, h1, hp r u h2, h3⟩, h4⟩, h5⟩
  · exact absurd hE (hx E))
theorem gYI_M (h : gMI l y b nL ret rm D cy n ad cz argv ρ post mc ms) (hp : ∀ r ρ1, post r ρ1 → post' r ρ1) : gYI l y b nL ret rm D cy n ad cz argv ρ post' mc ms := fun sz => MetFree.mono (h sz) (fun _ _ q => by
  obtain ⟨q0, q1, q2, q3, q4, q6, q5⟩ := q
  exact ⟨q0, q1, q2, q3, q4, q6⟩) (fun _ _ _ _ _ q => q) (fun a s o s' _ hq => by
  obtain ⟨⟨⟨r, u, h1, h2, h3⟩, h4⟩, h5⟩ := hq
  exact ⟨⟨⟨r, u, h1, hp r u h2, h3⟩, h4⟩, h5⟩)
theorem gYI_1 {e1 : String} {o : gOut} (h : gXI l y b nL ret rm D cy n ad cz argv ρ (fun r ρ1 => o = (0, r, ρ1)) (xq1 e1 o.1) mc ms) (ho : o = (0, v, ρ2)) : gYI l y b nL ret rm D cy n ad cz argv ρ (fun r ρ1 => r = v ∧ ρ1 = ρ2) mc ms := by
  subst ho
  exact gYI_X h (fun E q => absurd q.2 (show ¬ (0 : Nat) = 1 by decide)) (fun r ρ1 q => by cases q; exact ⟨rfl, rfl⟩)
theorem gYI_2 {e1 e2 : String} {o : gOut} (h : gXI l y b nL ret rm D cy n ad cz argv ρ (fun r ρ1 => o = (0, r, ρ1)) (xq2 e1 e2 o.1) mc ms) (ho : o = (0, v, ρ2)) : gYI l y b nL ret rm D cy n ad cz argv ρ (fun r ρ1 => r = v ∧ ρ1 = ρ2) mc ms := by
  subst ho
  exact gYI_X h (fun E q => q.elim (fun q => absurd q.2 (show ¬ (0 : Nat) = 1 by decide)) (fun q => absurd q.2 (show ¬ (0 : Nat) = 2 by decide))) (fun r ρ1 q => by cases q; exact ⟨rfl, rfl⟩)
end YI
section FG
variable {p : Program} {l : Launch} {e : Env} {R : Room} {s : State} {m : MethodId} {args : Array Value} {below : List Frame} {meth : Method} {c : Code} {Q : State → Prop}
variable {cc : ByteArray} {nL : Nat} {Ts : List Cond} {own : String} {D : va_G} {cy : Nat → ClassId} {A : Nat → Prop}
variable {n n' : Nat} {ad ad' : Nat → Nat} {cz cz' : Nat → (Nat → Int32) → va_E} {ρ ρ' : gSt} {cells slots pc : Nat} {ls ls' : List (Nat × Value)} {st st0 rest : List Value}
variable {y : MethodName} {rm : Room} {bytes : ByteArray} {maxL nA index mc ms : Nat} {ret : Option FieldType} {C : String} {Tf : u_T} {Nf ci : Nat} {As : List Value}
/-- the same cells in another order, or fewer of them -/
theorem g_ren (g : Nat → Nat) (hg : ∀ k, k < n' → g k < n ∧ ad' k = ad (g k) ∧ eSame (cz (g k) (ρ (g k))) (cz' k (ρ' k))) (hgi : ∀ i j, i < n' → j < n' → g i = g j → i = j) (kk : GW p l e R s m args below meth c Q nL D A n' ad' cz' ρ' cells slots pc ls st) : GW p l e R s m args below meth c Q nL D A n ad cz ρ cells slots pc ls st := fun H locs la hP hD hS hl => by
  refine kk H locs la (fun k q hq => ?_) (gD_of (fun i j h1 h2 h3 => ?_) (fun k hk => ?_)) hS hl
  · obtain ⟨hk, rfl⟩ := gWl_out hq
    obtain ⟨a1, a2, a3⟩ := hg k hk
    have := hP (g k) _ (gWl_get a1)
    rw [a2]
    exact a3.at this
  · rw [(hg i h1).2.1, (hg j h2).2.1] at h3
    exact hgi i j h1 h2 (gD_inj hD _ _ (hg i h1).1 (hg j h2).1 h3)
  · rw [(hg k hk).2.1]
    exact gD_in hD (hg k hk).1
/-- a world told outright -/
theorem g_toE (kk : GW p l e R s m args below meth c Q nL D A n ad (cE (fun k => cz k (ρ k))) z0 cells slots pc ls st) : GW p l e R s m args below meth c Q nL D A n ad cz ρ cells slots pc ls st := fun H locs la hP hD hS hl => kk H locs la hP hD hS hl
theorem g_y_at (X : gX p m c cc nL s args Ts own D cy A) (hE : gEnv s A) {post : Int32 → gSt → Prop} (k0 off : Nat) (σ : gSt) (hσ : ∀ j, j < n' → cz' j (ρ (off + j)) = cz' j (σ j)) (hM : gYI l y bytes maxL ret rm D cy n' ad' cz' (.ref (ad k0) :: As) σ post mc ms) (hL : gLkV own index C y bytes maxL ret nA) (hR : rm.cells = mc ∧ rm.slots = ms ∧ rm.frames + 1 ≤ R.frames ∧ 8 + (maxL + 11) + rm.locals ≤ R.locals) (hs : gSub n ad cz off n' ad' cz') (hk0 : k0 < n) (hO : gOb cz k0 ci) (hc : vwCl[ci]? = some (C, Tf, Nf)) (hn : As.length = nA) (hst : st0 = As.reverse ++ .ref (ad k0) :: rest) (hcat : (rest.map fun v => v.category).sum ≤ 8) (hd : decode cc pc = .ok (.invokevirtual index, 3)) (hroom : cells + mc ≤ R.cells ∧ slots + ms ≤ R.slots) (kk : ∀ r ρ1, post r ρ1 → GW p l e R s m args below meth c Q nL D A n ad cz (gBack ρ off n' ρ1) (cells + mc) (slots + ms) (pc + 3) ls (.int r :: rest)) : GW p l e R s m args below meth c Q nL D A n ad cz ρ cells slots pc ls st0 := by
  intro H locs la hP hD hS hl
  have hfree := gA_sub hs hD hS X.2.2.1
  obtain ⟨fs9, hfs9⟩ := hO (ρ k0)
  exact va_calli (va_runV X.1 (hM H.size) (gCwV X.1.2.2.2.2 X.2.2.2.1 hL hR) ⟨gPx_blind, va_recv X.2.1 hP hc ((gWl_get hk0).trans (by rw [hfs9])), fun U hU hW => ⟨rfl, by rw [hU], by rw [hU]; exact gP_congr hσ (gP_sub hs hP), va_K.moved hW.alike X.2.1, gInj_sub hs (gD_inj hD), gNst_warm hW X.2.2.2.2, gEnv_at hE hW hU hS hfree⟩⟩ rfl hn hl.1 hst (lv_room hcat) hd hroom) hS (fun q _ h => hfree q h) hfree (fun r ρ1 t H1 locs1 ht hvm hw hB hz1 hk1 hS1 => kk r ρ1 hw H1 locs1 la (gP_back hs (gD_inj hD) hP hk1 (ht ▸ hB)) (gD_of (gD_inj hD) (fun _ hk => gD_in hD hk)) hS1 hl)
variable {F S T : Nat} {Ln : Nat → Nat} {fa : Nat → Nat} {fz : Nat → (Nat → Int32) → va_E} {φ ρa ρb ρ2 : gSt} {v : Int32}
theorem jF_back {n0 : Nat} {σ : gSt} {k : Nat} (hk : k < F + n0) : gBack (jF F φ ρ) F n0 σ k = jF F φ σ k := by
  unfold gBack
  by_cases h : F ≤ k
  · rw [if_pos ⟨h, hk⟩]
    unfold jF
    rw [if_neg (by omega)]
  · rw [if_neg (by omega), jF_lo (by omega), jF_lo (by omega)]
/-- a call of the class, where its cells stand ahead of the Sim's, behind a front -/
theorem g_yc (X : gX p m c cc nL s args Ts own D cy A) (hE : gEnv s A) (hM : gYI l y bytes maxL ret rm D cy 48 ad (cC ad cy) (.ref (ad 0) :: As) ρa (fun r ρ1 => r = v ∧ ρ1 = ρ2) mc ms) (hL : gLkV own index "StreetOrgans" y bytes maxL ret nA) (hR : rm.cells = mc ∧ rm.slots = ms ∧ rm.frames + 1 ≤ R.frames ∧ 8 + (maxL + 11) + rm.locals ≤ R.locals) (hn : As.length = nA) (hst : st0 = As.reverse ++ .ref (ad 0) :: rest) (hcat : (rest.map fun v => v.category).sum ≤ 8) (hd : decode cc pc = .ok (.invokevirtual index, 3)) (hroom : cells + mc ≤ R.cells ∧ slots + ms ≤ R.slots) (kk : GW p l e R s m args below meth c Q nL D A (nW F S T) (jF F fa ad) (jF F fz (cW ad cy S T Ln)) (jF F φ (wR S ρ2 ρb)) (cells + mc) (slots + ms) (pc + 3) ls (.int v :: rest)) : GW p l e R s m args below meth c Q nL D A (nW F S T) (jF F fa ad) (jF F fz (cW ad cy S T Ln)) (jF F φ (wR S ρa ρb)) cells slots pc ls st0 := by
  have e0 : jF F fa ad (F + 0) = ad 0 := jF_hi
  refine g_y_at X hE (F + 0) F ρa (fun j hj => ?_) (by rw [e0]; exact hM) hL hR sub_FC (by show F + 0 < F + (48 + (8 + S + T)); omega) (ci := 3) (gSub_ob (ad := jF F fa ad) sub_FC lC_O (by omega)) rfl hn (by rw [e0]; exact hst) hcat hd hroom (fun r ρ1 h => ?_)
  · rw [jF_hi]
    unfold wR
    rw [jF_lo hj]
  · obtain ⟨rfl, rfl⟩ := h
    refine g_congr (fun k hk => ?_) kk
    refine congrArg (jF F fz (cW ad cy S T Ln) k) ?_
    have hk : k < F + (48 + (8 + S + T)) := hk
    by_cases h2 : k < F
    · simp only [gBack]
      rw [if_neg (show ¬ (F ≤ k ∧ k < F + 48) by omega), jF_lo h2, jF_lo h2]
    · obtain ⟨j, rfl⟩ : ∃ j, k = F + j := ⟨k - F, by omega⟩
      simp only [gBack]
      rw [jF_hi, jF_hi]
      unfold wR
      by_cases h1 : j < 48
      · rw [if_pos (show F ≤ F + j ∧ F + j < F + 48 by omega), jF_lo h1, show F + j - F = j by omega]
      · rw [if_neg (show ¬ (F ≤ F + j ∧ F + j < F + 48) by omega)]
        obtain ⟨i, rfl⟩ : ∃ i, j = 48 + i := ⟨j - 48, by omega⟩
        rw [jF_hi, jF_hi]
/-- a call of the Sim there -/
theorem g_sc (X : gX p m c cc nL s args Ts own D cy A) (hM : gMI l y bytes maxL ret rm D cy (8 + S + T) (aS ad) (cS (aS ad) cy S T Ln) (.ref (ad 48) :: As) (sR S ρb) (fun r ρ1 => r = v ∧ ρ1 = sR S ρ2) mc ms) (hL : gLkV own index "StreetOrgansLaw$Sim" y bytes maxL ret nA) (hR : rm.cells = mc ∧ rm.slots = ms ∧ rm.frames + 1 ≤ R.frames ∧ 8 + (maxL + 11) + rm.locals ≤ R.locals) (hn : As.length = nA) (hst : st0 = As.reverse ++ .ref (ad 48) :: rest) (hcat : (rest.map fun v => v.category).sum ≤ 8) (hd : decode cc pc = .ok (.invokevirtual index, 3)) (hroom : cells + mc ≤ R.cells ∧ slots + ms ≤ R.slots) (kk : GW p l e R s m args below meth c Q nL D A (nW F S T) (jF F fa ad) (jF F fz (cW ad cy S T Ln)) (jF F φ (wR S ρa ρ2)) (cells + mc) (slots + ms) (pc + 3) ls (.int v :: rest)) : GW p l e R s m args below meth c Q nL D A (nW F S T) (jF F fa ad) (jF F fz (cW ad cy S T Ln)) (jF F φ (wR S ρa ρb)) cells slots pc ls st0 := by
  have e0 : jF F fa ad (F + 48 + 0) = ad 48 := jF_hi
  have e1 : (fun j => jF F φ (wR S ρa ρb) (F + 48 + j)) = sR S ρb := by
    funext j
    rw [show F + 48 + j = F + (48 + j) by omega, jF_hi]
    unfold wR
    rw [jF_hi]
  refine g_mcallVi_at X (F + 48 + 0) (F + 48) (by rw [e0, e1]; exact hM) hL hR sub_FS (by show F + 48 + 0 < F + (48 + (8 + S + T)); omega) (ci := 4) (gSub_ob (ad := jF F fa ad) sub_FS lS_O (by omega)) rfl hn (by rw [e0]; exact hst) hcat hd hroom (fun r ρ1 h => ?_)
  obtain ⟨rfl, rfl⟩ := h
  refine g_congr (fun k hk => ?_) kk
  refine congrArg (jF F fz (cW ad cy S T Ln) k) ?_
  have hk : k < F + (48 + (8 + S + T)) := hk
  by_cases h2 : k < F
  · simp only [gBack]
    rw [if_neg (show ¬ (F + 48 ≤ k ∧ k < F + 48 + (8 + S + T)) by omega), jF_lo h2, jF_lo h2]
  · obtain ⟨j, rfl⟩ : ∃ j, k = F + j := ⟨k - F, by omega⟩
    simp only [gBack]
    rw [jF_hi, jF_hi]
    unfold wR
    by_cases h1 : j < 48
    · rw [if_neg (show ¬ (F + 48 ≤ F + j ∧ F + j < F + 48 + (8 + S + T)) by omega), jF_lo h1, jF_lo h1]
    · obtain ⟨i, rfl⟩ : ∃ i, j = 48 + i := ⟨j - 48, by omega⟩
      rw [if_pos (show F + 48 ≤ F + (48 + i) ∧ F + (48 + i) < F + 48 + (8 + S + T) by omega), jF_hi, show F + (48 + i) - (F + 48) = i by omega]
/-- a new row of ints in front -/
theorem g_push {n0 : Nat} {adw : Nat → Nat} {czw : Nat → (Nat → Int32) → va_E} {ρw : gSt} {lenq q : Nat} {cA : ClassId} (kk : GW p l e R s m args below meth c Q nL D A (F + 1 + n0) (jF (F + 1) (xAd fa F q) adw) (jF (F + 1) (xCz fz F cA lenq) czw) (jF (F + 1) (xRo φ F) ρw) cells slots pc ls st) : GW p l e R s m args below meth c Q nL D A (F + n0 + 1) (xAd (jF F fa adw) (F + n0) q) (xCz (jF F fz czw) (F + n0) cA lenq) (xRo (jF F φ ρw) (F + n0)) cells slots pc ls st := by
  refine g_ren (fun k => if k < F then k else if k = F then F + n0 else k - 1) (fun k hk => ?_) (fun i j hi hj h => ?_) kk
  · by_cases h1 : k < F
    · refine ⟨?_, ?_, Or.inl ?_⟩
      · rw [if_pos h1]; omega
      · simp only [jF, xAd, if_pos h1, if_neg (show ¬ k = F + n0 by omega), if_neg (show ¬ k = F by omega), if_pos (show k < F + 1 by omega)]
      · simp only [jF, xCz, xRo, if_pos h1, if_neg (show ¬ k = F + n0 by omega), if_neg (show ¬ k = F by omega), if_pos (show k < F + 1 by omega)]
    · by_cases h2 : k = F
      · refine ⟨?_, ?_, Or.inl ?_⟩
        · rw [if_neg h1, if_pos h2]; omega
        · simp [jF, xAd, h2]
        · simp [jF, xCz, xRo, h2]
      · refine ⟨?_, ?_, Or.inl ?_⟩
        · rw [if_neg h1, if_neg h2]; omega
        · simp only [jF, xAd, if_neg h1, if_neg h2, if_neg (show ¬ k - 1 = F + n0 by omega), if_neg (show ¬ k - 1 < F by omega), if_neg (show ¬ k < F + 1 by omega), show k - 1 - F = k - (F + 1) by omega]
        · simp only [jF, xCz, xRo, if_neg h1, if_neg h2, if_neg (show ¬ k - 1 = F + n0 by omega), if_neg (show ¬ k - 1 < F by omega), if_neg (show ¬ k < F + 1 by omega), show k - 1 - F = k - (F + 1) by omega]
  · split at h <;> split at h <;> (try split at h) <;> (try split at h) <;> omega
theorem g_pushi (X : gX p m c cc nL s args Ts own D cy A) (F1 : Nat) (hF1 : F + 1 = F1) {n0 : Nat} {adw : Nat → Nat} {czw : Nat → (Nat → Int32) → va_E} {ρw : gSt} (len : Nat) (hlen : len < 2 ^ 20) (hw : Cond.arrayClass .int ∈ wAll) (hroom : cells + 1 ≤ R.cells ∧ slots + len ≤ R.slots) (hd : decode cc pc = .ok (.newarray .int, 2)) (kk : ∀ q, GW p l e R s m args below meth c Q nL D A (F1 + n0) (jF F1 (xAd fa F q) adw) (jF F1 (xCz fz F (cy 0) len) czw) (jF F1 (xRo φ F) ρw) (cells + 1) (slots + len) (pc + 2) ls (.ref q :: st)) : GW p l e R s m args below meth c Q nL D A (F + n0) (jF F fa adw) (jF F fz czw) (jF F φ ρw) cells slots pc ls (.int (nI len) :: st) := by
  subst hF1
  exact g_newi X len hlen hw hroom hd (fun q => g_push (by
  have : xAd (jF F fa adw) (F + n0) q (F + n0) = q := by simp [xAd]
  rw [this]
  exact kk q))
theorem g_pushz (X : gX p m c cc nL s args Ts own D cy A) (F1 : Nat) (hF1 : F + 1 = F1) {n0 : Nat} {adw : Nat → Nat} {czw : Nat → (Nat → Int32) → va_E} {ρw : gSt} (len : Nat) (hlen : len < 2 ^ 20) (hw : Cond.arrayClass .boolean ∈ wAll) (hroom : cells + 1 ≤ R.cells ∧ slots + len ≤ R.slots) (hd : decode cc pc = .ok (.newarray .boolean, 2)) (kk : ∀ q, GW p l e R s m args below meth c Q nL D A (F1 + n0) (jF F1 (xAd fa F q) adw) (jF F1 (xCz fz F (cy 1) len) czw) (jF F1 (xRo φ F) ρw) (cells + 1) (slots + len) (pc + 2) ls (.ref q :: st)) : GW p l e R s m args below meth c Q nL D A (F + n0) (jF F fa adw) (jF F fz czw) (jF F φ ρw) cells slots pc ls (.int (nI len) :: st) := by
  subst hF1
  exact g_newz X len hlen hw hroom hd (fun q => g_push (by
  have : xAd (jF F fa adw) (F + n0) q (F + n0) = q := by simp [xAd]
  rw [this]
  exact kk q))
/-- without the front -/
theorem g_popF {n0 : Nat} {adw : Nat → Nat} {czw : Nat → (Nat → Int32) → va_E} {ρw : gSt} (kk : GW p l e R s m args below meth c Q nL D A (0 + n0) (jF 0 fa adw) (jF 0 fz czw) (jF 0 φ ρw) cells slots pc ls st) : GW p l e R s m args below meth c Q nL D A (F + n0) (jF F fa adw) (jF F fz czw) (jF F φ ρw) cells slots pc ls st := g_ren (fun k => F + k) (fun k hk => by
  refine ⟨by omega, ?_, ?_⟩
  · rw [jF_hi]; rfl
  · rw [jF_hi, jF_hi]; exact Or.inl rfl) (fun i j _ _ h => by omega) kk
theorem g_F0 {n0 : Nat} {adw : Nat → Nat} {czw : Nat → (Nat → Int32) → va_E} {ρw : gSt} (kk : GW p l e R s m args below meth c Q nL D A (0 + n0) (jF 0 fa adw) (jF 0 fz czw) (jF 0 φ ρw) cells slots pc ls st) : GW p l e R s m args below meth c Q nL D A n0 adw czw ρw cells slots pc ls st := g_ren (fun k => k) (fun k hk => ⟨by omega, rfl, Or.inl rfl⟩) (fun i j _ _ h => h) kk
theorem g_0F {n0 : Nat} {adw : Nat → Nat} {czw : Nat → (Nat → Int32) → va_E} {ρw : gSt} (kk : GW p l e R s m args below meth c Q nL D A n0 adw czw ρw cells slots pc ls st) : GW p l e R s m args below meth c Q nL D A (0 + n0) (jF 0 fa adw) (jF 0 fz czw) (jF 0 φ ρw) cells slots pc ls st := g_ren (fun k => k) (fun k hk => ⟨by omega, rfl, Or.inl rfl⟩) (fun i j _ _ h => h) kk
/-- rows of rows of ints -/
theorem g_aaldA (X : gX p m c cc nL s args Ts own D cy A) (k i : Nat) {len : Nat} {tgt : Nat → Nat} (hk : k < n) {cA : ClassId} (hF : gAR cz ad cA k len tgt) (ht : (gT cy)[4]? = some (cA, .array .int)) (hin : i < len) (h31 : len < 2 ^ 31) (hd : decode cc pc = .ok (.aaload, 1)) (kk : GW p l e R s m args below meth c Q nL D A n ad cz ρ cells slots (pc + 1) ls (.ref (ad (tgt i)) :: st)) : GW p l e R s m args below meth c Q nL D A n ad cz ρ cells slots pc ls (.int (nI i) :: .ref (ad k) :: st) := fun H locs la hP hD hS hl => by
  obtain ⟨f, h1, h2⟩ := hF (ρ k)
  have hlt : (nI i).toNatClampNeg < len := by rw [nI_clamp (by omega)]; exact hin
  have e2 : f i = some (ad (tgt i)) := h2 i hin
  have hcl : H[ad k]? = some (vp_cell cA (len, .inr (.inr (.inr (.inr f))))) := hP k (ad k, .inl (cA, len, .inr (.inr (.inr (.inr f))))) ((gWl_get hk).trans (by rw [h1]))
  refine W.aald (v := va_rf (f (nI i).toNatClampNeg)) (ty := .array .int) X.1.1 X.1.2.1 hcl ((X.2.1.2 4 _ ht).1 len (fun j => va_rf (f j))) rfl (fun q => by cases q) (by show ¬ (nI i < 0 ∨ (arrV _ _ _).slots.size ≤ _); rw [arrV_size]; exact vp_in_nI hin h31) (by show (arrV _ _ _).slots[_]? = _; rw [arrV_read _ _ hlt]) rfl rfl hd ?_
  rw [nI_clamp (by omega), e2]
  exact kk H locs la hP hD hS hl
theorem g_ishl (X : gX p m c cc nL s args Ts own D cy A) {x y : Int32} (hd : decode cc pc = .ok (.ishl, 1)) (kk : GW p l e R s m args below meth c Q nL D A n ad cz ρ cells slots (pc + 1) ls (.int (x <<< (y &&& 31)) :: st)) : GW p l e R s m args below meth c Q nL D A n ad cz ρ cells slots pc ls (.int y :: .int x :: st) := fun H locs la hP hD hS hl => lv_ishl X.1.1 X.1.2.1 hd (kk H locs la hP hD hS hl)
theorem g_ior (X : gX p m c cc nL s args Ts own D cy A) {x y : Int32} (hd : decode cc pc = .ok (.ior, 1)) (kk : GW p l e R s m args below meth c Q nL D A n ad cz ρ cells slots (pc + 1) ls (.int (x ||| y) :: st)) : GW p l e R s m args below meth c Q nL D A n ad cz ρ cells slots pc ls (.int y :: .int x :: st) := fun H locs la hP hD hS hl => lv_ior X.1.1 X.1.2.1 hd (kk H locs la hP hD hS hl)
theorem g_ldc (X : gX p m c cc nL s args Ts own D cy A) {index : Nat} {v : Int32} (hw : Cond.constant own index v ∈ wAll) (hd : decode cc pc = .ok (.ldc index, 2)) (kk : GW p l e R s m args below meth c Q nL D A n ad cz ρ cells slots (pc + 2) ls (.int v :: st)) : GW p l e R s m args below meth c Q nL D A n ad cz ρ cells slots pc ls st := fun H locs la hP hD hS hl => lv_ldc X.1.1 X.1.2.1 X.1.2.2.2.1 (X.1.2.2.2.2 _ (X.2.2.2.1 _ hw)) hd (kk H locs la hP hD hS hl)
/-- the ways through a conditional expression come together -/
theorem g_join (tgt : Nat) (v : Int32) (k2 : (∀ x : Int32, x = v → GW p l e R s m args below meth c Q nL D A n ad cz ρ cells slots tgt ls (.int x :: st)) → GW p l e R s m args below meth c Q nL D A n ad cz ρ cells slots pc ls st) (kk : GW p l e R s m args below meth c Q nL D A n ad cz ρ cells slots tgt ls (.int v :: st)) : GW p l e R s m args below meth c Q nL D A n ad cz ρ cells slots pc ls st := k2 (fun x hx => by rw [hx]; exact kk)
end FG
theorem wX {ρ1 ρ : gSt} {S k j c j' : Nat} {v : Int32} (e : ρ1 = up2 (sR S ρ) k j v) (h : up2 (sR S ρ) k j v = sR S (up2 ρ c j' v)) : ∃ σ1, σ1 = up2 ρ c j' v ∧ ρ1 = sR S σ1 := ⟨_, rfl, e.trans h⟩
theorem rF {F S k j : Nat} {φ ρa ρb : gSt} : jF F φ (wR S ρa ρb) (F + 48 + k) j = sR S ρb k j := by
  rw [show F + 48 + k = F + (48 + k) by omega, jF_hi]
  unfold wR
  rw [jF_hi]
theorem up2_hi {F k j : Nat} {φ ρ : gSt} {v : Int32} : up2 (jF F φ ρ) (F + k) j v = jF F φ (up2 ρ k j v) := by
  funext a b
  rw [up2_e]
  by_cases h : a < F
  · rw [if_neg (by omega), jF_lo h, jF_lo h]
  · obtain ⟨i, rfl⟩ : ∃ i, a = F + i := ⟨a - F, by omega⟩
    rw [jF_hi, jF_hi, up2_e]
    by_cases q : i = k ∧ b = j
    · rw [if_pos q, if_pos (by omega)]
    · rw [if_neg q, if_neg (by omega)]
theorem up2_lo {F k j : Nat} {φ ρ : gSt} {v : Int32} (h : k < F) : up2 (jF F φ ρ) k j v = jF F (up2 φ k j v) ρ := by
  funext a b
  rw [up2_e]
  by_cases q : a < F
  · rw [jF_lo q, jF_lo q, up2_e]
  · rw [if_neg (by omega)]
    unfold jF
    rw [if_neg q, if_neg q]
theorem wXF {ρ1 φ ρa ρ : gSt} {F S k j c j' : Nat} {v : Int32} (e : ρ1 = up2 (jF F φ (wR S ρa ρ)) (F + 48 + k) j v) (h : up2 (sR S ρ) k j v = sR S (up2 ρ c j' v)) : ∃ σ1, σ1 = up2 ρ c j' v ∧ ρ1 = jF F φ (wR S ρa σ1) := ⟨_, rfl, by
  rw [e, show F + 48 + k = F + (48 + k) by omega, up2_hi]
  unfold wR
  rw [up2_hi, h]⟩
theorem wFl {ρ1 φ ρ : gSt} {F k j : Nat} {v : Int32} (e : ρ1 = up2 (jF F φ ρ) k j v) (h : k < F) : ∃ φ1, φ1 = up2 φ k j v ∧ ρ1 = jF F φ1 ρ := ⟨_, rfl, e.trans (up2_lo h)⟩
theorem jF_ai {F k len : Nat} {fz cz : Nat → (Nat → Int32) → va_E} {cA : ClassId} (h : gAI fz cA k len) (hk : k < F) : gAI (jF F fz cz) cA k len := fun r => by rw [jF_lo hk]; exact h r
end
section
/-! Plain facts for the Sim's methods -/
def LnOK (ρ : gSt) (T : Nat) (Ln : Nat → Nat) : Prop := ∀ t, t < T → ρ (14 + 3 * t) 2 = nI (Ln t) ∧ Ln t ≤ 16
section SP
variable {ρ σ : gSt} {N T S d t p q w z : Nat} {Ln : Nat → Nat} {x : Int32}
theorem tunL (hT : tunI ρ t) (hL : ρ (14 + 3 * t) 2 = nI (Ln t) ∧ Ln t ≤ 16) : (∀ k, k < Ln t → ∃ q : Nat, q < 12 ∧ ρ (15 + 3 * t) k = nI q) ∧ ∀ q, q < 12 → ρ (16 + 3 * t) q = cntI (ρ (15 + 3 * t)) (nI q) (Ln t) := by
  obtain ⟨L, hL1, hL16, hLn, hLc⟩ := hT
  obtain rfl : L = Ln t := (nI_eq (by omega) (by omega)).mp (hL1.symm.trans hL.1)
  exact ⟨hLn, hLc⟩
theorem two_mul32 (w : Int32) : 2 * w = w + w := by
  have : (2 : Int32) = 1 + 1 := by decide
  rw [this, Int32.add_mul, Int32.one_mul]
theorem hP_a (h : ¬ ρ 4 p = 0) : 60 = hP ρ 1 p := by
  unfold hP hm
  rw [if_neg h]
theorem hP_bc (h : ρ 4 p = 0) : hP ρ 1 p = mnI 60 (ab (ρ 3 p) + ρ 2 p + ρ 2 p) := by
  unfold hP hm
  rw [if_pos h, two_mul32, Int32.add_assoc]
theorem hP_b (h : ρ 4 p = 0) (hx : x = ab (ρ 3 p) + ρ 2 p + ρ 2 p) (h6 : x ≤ 60) : x = hP ρ 1 p := by
  rw [hP_bc h, ← hx]
  unfold mnI
  by_cases q : x < 60
  · rw [if_pos q]
  · rw [if_neg q]
    exact Int32.le_antisymm h6 (Int32.not_lt.mp q)
theorem hP_c (h : ρ 4 p = 0) (hx : x = ab (ρ 3 p) + ρ 2 p + ρ 2 p) (h6 : ¬ x ≤ 60) : 60 = hP ρ 1 p := by
  rw [hP_bc h, ← hx]
  unfold mnI
  rw [if_neg (fun q => h6 (Int32.le_of_lt q))]
theorem ab_ge {o : Int32} (h : 0 ≤ o) : ab o = o := by
  unfold ab
  rw [if_pos h]
theorem ab_lt {o : Int32} (h : ¬ 0 ≤ o) : ab o = -o := by
  unfold ab
  rw [if_neg h, Int32.zero_sub]
def sdS (ρ : gSt) (t k : Nat) : Int32 := hP ρ 1 (ix (ρ (15 + 3 * t) k))
theorem snd_sim (hT : tunI ρ t) (hL : ρ (14 + 3 * t) 2 = nI (Ln t) ∧ Ln t ≤ 16) : sndC ρ 1 t (-1) = if nI (Ln t) = 0 then 0 else 60 - sumI (sdS ρ t) (Ln t) / nI (Ln t) := by
  obtain ⟨hLn, hLc⟩ := tunL hT hL
  rw [snd_eq hL.1 hL.2 hLn hLc, hL.1]
  have e : sumI (fun k => if ρ (15 + 3 * t) k = -1 then 0 else hP ρ 1 (ix (ρ (15 + 3 * t) k))) (Ln t) = sumI (sdS ρ t) (Ln t) := sumI_congr (fun j hj => by
    obtain ⟨q, hq, e⟩ := hLn j hj
    show (if ρ (15 + 3 * t) j = -1 then 0 else hP ρ 1 (ix (ρ (15 + 3 * t) j))) = sdS ρ t j
    rw [if_neg (fun h => by
      rw [e] at h
      have h2 := congrArg Int32.toInt h
      rw [nI_toInt (by omega)] at h2
      have e1 : (-1 : Int32).toInt = -1 := by decide
      rw [e1] at h2
      omega)]
    rfl)
  rw [e]
theorem sg_out {k : Nat} (h1 : k ≠ 2) (h2 : k ≠ 5) : sgR ρ 1 t p k = ρ k := by
  induction p with
  | zero => rfl
  | succ p ih =>
    funext j
    simp only [sgR, snR]
    rw [up2_k (by omega), up2_k (by omega), ih]
theorem sg_w (hw : ∀ i, i < 12 → ∃ w : Nat, w ≤ 30 ∧ ρ 2 i = nI w) : ∀ i, i < 12 → ∃ w : Nat, w ≤ 30 ∧ sgR ρ 1 t p 2 i = nI w := by
  induction p with
  | zero => exact hw
  | succ p ih =>
    intro i hi
    simp only [sgR, snR]
    rw [up2_k (by omega), up2_e]
    by_cases h : (2 : Nat) = 1 + 1 ∧ i = ix (ρ (15 + 3 * t) p)
    · rw [if_pos h]
      obtain ⟨w, hw, e⟩ := ih i hi
      rw [← h.2, show sgR ρ 1 t p (1 + 1) i = nI w from e, nI_1]
      exact ⟨min 30 (w + 1), Nat.min_le_left _ _, mn_N (x := 30) (by omega) (by omega)⟩
    · rw [if_neg h]
      exact ih i hi
theorem up2_id2 {k j : Nat} {v : Int32} (h : ρ k j = v) : up2 ρ k j v = ρ := by
  funext a b
  rw [up2_e]
  by_cases q : a = k ∧ b = j
  · rw [if_pos q, q.1, q.2, h]
  · rw [if_neg q]
theorem sg_s1 (hw : ρ 2 q = nI w) (h : w < 30) : up2 (up2 ρ 2 q (nI (w + 1))) 5 q 1 = snR ρ 1 q := by
  unfold snR
  rw [show ρ (1 + 1) q = nI w from hw, nI_1, show mnI 30 (nI (w + 1)) = nI (min 30 (w + 1)) from mn_N (x := 30) (by omega) (by omega), Nat.min_eq_right (by omega)]
theorem sg_s2 (hw : ρ 2 q = nI w) (h : 30 ≤ w) (h2 : w ≤ 30) : up2 ρ 5 q 1 = snR ρ 1 q := by
  unfold snR
  rw [show ρ (1 + 1) q = nI w from hw, nI_1, show mnI 30 (nI (w + 1)) = nI (min 30 (w + 1)) from mn_N (x := 30) (by omega) (by omega), Nat.min_eq_left (by omega), show (30 : Nat) = w by omega, up2_id2 (k := 1 + 1) hw]
theorem pm_dec : ∀ u : Fin 128, ∀ k : Fin 7, (nI u.val &&& ((1 : Int32) <<< (nI k.val &&& 31)) = 0 ↔ pmF (nI u.val) (nI k.val) = 0) ∧ ((nI u.val >>> (nI k.val &&& 31)) &&& 1 = pmF (nI u.val) (nI k.val)) := by decide +kernel
theorem pm_sh {u k : Nat} (hu : u ≤ 127) (hk : k < 7) : nI u &&& ((1 : Int32) <<< (nI k &&& 31)) = 0 ↔ pmF (nI u) (nI k) = 0 := (pm_dec ⟨u, by omega⟩ ⟨k, hk⟩).1
theorem pm_sr {u k : Nat} (hu : u ≤ 127) (hk : k < 7) : (nI u >>> (nI k &&& 31)) &&& 1 = pmF (nI u) (nI k) := (pm_dec ⟨u, by omega⟩ ⟨k, hk⟩).2
theorem mn10_le {x : Int32} (h : x ≤ 10) : mnI 10 x = x := by
  unfold mnI
  by_cases q : x < 10
  · rw [if_pos q]
  · rw [if_neg q]
    exact Int32.le_antisymm (Int32.not_lt.mp q) h
theorem mn10_gt {x : Int32} (h : ¬ x ≤ 10) : mnI 10 x = 10 := by
  unfold mnI
  rw [if_neg (fun q => h (Int32.le_of_lt q))]
/-- what playing does, where it can be done -/
def plV (ρ : gSt) (z t : Nat) : Int32 := if pmF (ρ (32 + 2 * z) 2) (wdF ρ) = 0 then -mnI 10 (ρ 0 8) else pyN ρ z t
def plR (ρ : gSt) (z t : Nat) : gSt := if pmF (ρ (32 + 2 * z) 2) (wdF ρ) = 0 then finR ρ else plyR ρ z t
/-- the sum of a row, without signs -/
def abs12 (ρ : gSt) (k : Nat) : Int32 := sumI (fun j => ab (ρ k j)) 12
theorem b01_ne {x : Int32} (h : ¬ x = 0) : b01 x = 1 := by
  unfold b01
  rw [if_neg h]
theorem b01_eq {x : Int32} (h : x = 0) : b01 x = 0 := by
  unfold b01
  rw [if_pos h]
theorem hd_sim {x : Int32} : hd x = if ¬ x ≤ 60 then 60 else if x < -60 then -60 else x := by
  unfold hd mxI mnI
  by_cases h1 : x < 60
  · rw [if_pos h1, if_neg (show ¬ ¬ x ≤ 60 from fun q => q (Int32.le_of_lt h1))]
    by_cases h2 : x < -60
    · rw [if_pos h2, if_neg (show ¬ -60 < x from fun q => Int32.lt_irrefl (Int32.lt_trans h2 q))]
    · rw [if_neg h2]
      by_cases h3 : -60 < x
      · rw [if_pos h3]
      · rw [if_neg h3]
        exact (Int32.le_antisymm (Int32.not_lt.mp h3) (Int32.not_lt.mp h2)).symm
  · rw [if_neg h1, if_pos (show (-60 : Int32) < 60 by decide)]
    by_cases h2 : x ≤ 60
    · have : x = 60 := Int32.le_antisymm h2 (Int32.not_lt.mp h1)
      subst this
      decide
    · rw [if_pos h2]
end SP
end
section
theorem kc_X4_harm : Cond.code yX4_harm cX4_harm 3 (some .int) ∈ wAll := kAll 442 (by decide +kernel) (by decide +kernel)
theorem kf_X4_17 : Cond.fieldLink RX4 17 (TX4 4).1 (TX4 4).2.1 (TX4 4).2.2.1 ∈ wAll := kAll 569 (by decide +kernel) (by decide +kernel)
theorem ku_X4 : ∀ w ∈ u_ws RX4 TX4 10, w ∈ wAll := by decide +kernel
theorem kv_X4 : vwCl[4]? = some (RX4, TX4, 10) := rfl
theorem kf_X4_13 : Cond.fieldLink RX4 13 (TX4 3).1 (TX4 3).2.1 (TX4 3).2.2.1 ∈ wAll := kAll 567 (by decide +kernel) (by decide +kernel)
theorem kf_X4_20 : Cond.fieldLink RX4 20 (TX4 5).1 (TX4 5).2.1 (TX4 5).2.2.1 ∈ wAll := kAll 571 (by decide +kernel) (by decide +kernel)
theorem kc_X4_sound : Cond.code yX4_sound cX4_sound 7 (some .int) ∈ wAll := kAll 438 (by decide +kernel) (by decide +kernel)
theorem kf_X4_28 : Cond.fieldLink RX4 28 (TX4 7).1 (TX4 7).2.1 (TX4 7).2.2.1 ∈ wAll := kAll 574 (by decide +kernel) (by decide +kernel)
theorem km_X4_38 : Cond.methodLink RX4 38 yX4_harm ∈ wAll := kAll 439 (by decide +kernel) (by decide +kernel)
theorem kj_X4_harm : Cond.instanceMethod yX4_harm ∈ wAll := kAll 440 (by decide +kernel) (by decide +kernel)
theorem ks_X4_harm : Cond.selects RX4 yX4_harm yX4_harm ∈ wAll := kAll 441 (by decide +kernel) (by decide +kernel)
theorem ki_X4 : Cond.initialized RX4 ∈ wAll := kAll 14 (by decide +kernel) (by decide +kernel)
theorem kl_X4_38 : gLkV RX4 38 RX4 yX4_harm cX4_harm 3 (some .int) 1 := ⟨km_X4_38, kj_X4_harm, ks_X4_harm, ki_X4, kc_X4_harm, by decide +kernel⟩
theorem kc_X4_pays : Cond.code yX4_pays cX4_pays 5 (some .int) ∈ wAll := kAll 434 (by decide +kernel) (by decide +kernel)
theorem kf_X4_32 : Cond.fieldLink RX4 32 (TX4 8).1 (TX4 8).2.1 (TX4 8).2.2.1 ∈ wAll := kAll 576 (by decide +kernel) (by decide +kernel)
theorem km_X4_42 : Cond.methodLink RX4 42 yX4_sound ∈ wAll := kAll 435 (by decide +kernel) (by decide +kernel)
theorem kj_X4_sound : Cond.instanceMethod yX4_sound ∈ wAll := kAll 436 (by decide +kernel) (by decide +kernel)
theorem ks_X4_sound : Cond.selects RX4 yX4_sound yX4_sound ∈ wAll := kAll 437 (by decide +kernel) (by decide +kernel)
theorem kl_X4_42 : gLkV RX4 42 RX4 yX4_sound cX4_sound 7 (some .int) 1 := ⟨km_X4_42, kj_X4_sound, ks_X4_sound, ki_X4, kc_X4_sound, by decide +kernel⟩
theorem kc_X4_sing : Cond.code yX4_sing cX4_sing 6 none ∈ wAll := kAll 446 (by decide +kernel) (by decide +kernel)
theorem kf_X4_24 : Cond.fieldLink RX4 24 (TX4 6).1 (TX4 6).2.1 (TX4 6).2.2.1 ∈ wAll := kAll 573 (by decide +kernel) (by decide +kernel)
theorem kc_X4_play : Cond.code yX4_play cX4_play 5 (some .int) ∈ wAll := kAll 430 (by decide +kernel) (by decide +kernel)
theorem kf_X4_45 : Cond.fieldLink RX4 45 (TX4 0).1 (TX4 0).2.1 (TX4 0).2.2.1 ∈ wAll := kAll 563 (by decide +kernel) (by decide +kernel)
theorem km_X4_51 : Cond.methodLink RX4 51 yX4_pays ∈ wAll := kAll 431 (by decide +kernel) (by decide +kernel)
theorem kj_X4_pays : Cond.instanceMethod yX4_pays ∈ wAll := kAll 432 (by decide +kernel) (by decide +kernel)
theorem ks_X4_pays : Cond.selects RX4 yX4_pays yX4_pays ∈ wAll := kAll 433 (by decide +kernel) (by decide +kernel)
theorem kl_X4_51 : gLkV RX4 51 RX4 yX4_pays cX4_pays 5 (some .int) 2 := ⟨km_X4_51, kj_X4_pays, ks_X4_pays, ki_X4, kc_X4_pays, by decide +kernel⟩
theorem kf_X4_7 : Cond.fieldLink RX4 7 (TX4 1).1 (TX4 1).2.1 (TX4 1).2.2.1 ∈ wAll := kAll 564 (by decide +kernel) (by decide +kernel)
theorem km_X4_55 : Cond.methodLink RX4 55 yX4_sing ∈ wAll := kAll 443 (by decide +kernel) (by decide +kernel)
theorem kj_X4_sing : Cond.instanceMethod yX4_sing ∈ wAll := kAll 444 (by decide +kernel) (by decide +kernel)
theorem ks_X4_sing : Cond.selects RX4 yX4_sing yX4_sing ∈ wAll := kAll 445 (by decide +kernel) (by decide +kernel)
theorem kl_X4_55 : gLkV RX4 55 RX4 yX4_sing cX4_sing 6 none 1 := ⟨km_X4_55, kj_X4_sing, ks_X4_sing, ki_X4, kc_X4_sing, by decide +kernel⟩
theorem kf_X4_48 : Cond.fieldLink RX4 48 (TX4 2).1 (TX4 2).2.1 (TX4 2).2.2.1 ∈ wAll := kAll 566 (by decide +kernel) (by decide +kernel)
theorem kc_X4_crickets : Cond.code yX4_crickets cX4_crickets 6 (some .int) ∈ wAll := kAll 458 (by decide +kernel) (by decide +kernel)
theorem kc_X4_sum : Cond.code yX4_sum cX4_sum 7 (some .int) ∈ wAll := kAll 462 (by decide +kernel) (by decide +kernel)
end
section
set_option maxHeartbeats 1000000 in
set_option maxRecDepth 100000 in
theorem c_X4_harm (l : Launch) (D : va_G) (cy : Nat → ClassId) (ad : Nat → Nat) (ρ : Nat → Nat → Int32) (S T : Nat) (Ln : Nat → Nat) (j0 : Nat) (hp : j0 < 12) : gMI l yX4_harm cX4_harm 3 (some .int) { frames := 0, cells := 0, slots := 0, locals := 0 } D cy (8 + S + T) ad (cS ad cy S T Ln) [.ref (ad 0), .int (nI j0)] (sR S ρ) (fun r ρ1 => r = hP ρ 1 j0 ∧ ρ1 = sR S ρ) 0 0 := by
  refine gMI_of (ls := [(0, .ref (ad 0)), (1, .int (nI j0))]) RX4 rfl (by decide +kernel) (Nat.le_of_ble_eq_true rfl) rfl ?_
  intro p e s m args below meth c A X hr hlk hnm
  refine g_aload_n X dX4_harm_0 0 rfl rfl ?_
  refine g_getr X 0 (by omega) 4 (by decide) ku_X4 kv_X4 kf_X4_17 rfl lS_off dX4_harm_1 ?_
  refine g_iload_n X dX4_harm_4 1 rfl rfl ?_
  refine g_ialdN X 2 j0 (by omega) lS_a2 (by omega) (by decide) dX4_harm_5 ?_
  rw [rS_2]
  refine g_if_ge X 19 dX4_harm_6 (by decide) (fun c_1 => ?_) (fun c_1 => ?_)
  · skip
    have cA := c_1
    refine g_aload_n X dX4_harm_19 0 rfl rfl ?_
    refine g_getr X 0 (by omega) 4 (by decide) ku_X4 kv_X4 kf_X4_17 rfl lS_off dX4_harm_20 ?_
    refine g_iload_n X dX4_harm_23 1 rfl rfl ?_
    refine g_ialdN X 2 j0 (by omega) lS_a2 (by omega) (by decide) dX4_harm_24 ?_
    rw [rS_2]
    refine g_aload_n X dX4_harm_25 0 rfl rfl ?_
    refine g_getr X 0 (by omega) 3 (by decide) ku_X4 kv_X4 kf_X4_13 rfl lS_worn dX4_harm_26 ?_
    refine g_iload_n X dX4_harm_29 1 rfl rfl ?_
    refine g_ialdN X 1 j0 (by omega) lS_a1 (by omega) (by decide) dX4_harm_30 ?_
    rw [rS_1]
    refine g_iadd X dX4_harm_31 ?_
    refine g_aload_n X dX4_harm_32 0 rfl rfl ?_
    refine g_getr X 0 (by omega) 3 (by decide) ku_X4 kv_X4 kf_X4_13 rfl lS_worn dX4_harm_33 ?_
    refine g_iload_n X dX4_harm_36 1 rfl rfl ?_
    refine g_ialdN X 1 j0 (by omega) lS_a1 (by omega) (by decide) dX4_harm_37 ?_
    rw [rS_1]
    refine g_iadd X dX4_harm_38 ?_
    refine g_istore_n X [(2, .int _), (0, .ref _), (1, .int _)] dX4_harm_39 rfl (by decide) rfl ?_
    refine g_aload_n X dX4_harm_40 1 rfl rfl ?_
    refine g_getr X 0 (by omega) 5 (by decide) ku_X4 kv_X4 kf_X4_20 rfl lS_chirps dX4_harm_41 ?_
    refine g_iload_n X dX4_harm_44 2 rfl rfl ?_
    refine g_zaldN X 3 j0 (by omega) lS_a3 (by omega) (by decide) dX4_harm_45 ?_
    rw [rS_3]
    refine g_if_ne X 55 dX4_harm_46 (by decide) (fun c_2 => ?_) (fun c_2 => ?_)
    · skip
      have cC := c_2
      refine g_bipush X (v := 60) dX4_harm_55 (by decide) ?_
      refine g_goto X 61 dX4_harm_57 (by decide) ?_
      exact g_iret X hr hlk (by omega) (by omega) dX4_harm_61 (⟨hP_a cC, rfl⟩)
    · skip
      have cC := c_2
      refine g_iload_n X dX4_harm_49 0 rfl rfl ?_
      refine g_bipush X (v := 60) dX4_harm_50 (by decide) ?_
      refine g_icmp_le X 60 dX4_harm_52 (by decide) (fun c_3 => ?_) (fun c_3 => ?_)
      · skip
        have cD := c_3
        refine g_iload_n X dX4_harm_60 0 rfl rfl ?_
        exact g_iret X hr hlk (by omega) (by omega) dX4_harm_61 (⟨hP_b cC (by rw [ab_ge cA]) cD, rfl⟩)
      · skip
        have cD := c_3
        refine g_bipush X (v := 60) dX4_harm_55 (by decide) ?_
        refine g_goto X 61 dX4_harm_57 (by decide) ?_
        exact g_iret X hr hlk (by omega) (by omega) dX4_harm_61 (⟨hP_c cC (by rw [ab_ge cA]) cD, rfl⟩)
  · skip
    have cA := c_1
    refine g_aload_n X dX4_harm_9 0 rfl rfl ?_
    refine g_getr X 0 (by omega) 4 (by decide) ku_X4 kv_X4 kf_X4_17 rfl lS_off dX4_harm_10 ?_
    refine g_iload_n X dX4_harm_13 1 rfl rfl ?_
    refine g_ialdN X 2 j0 (by omega) lS_a2 (by omega) (by decide) dX4_harm_14 ?_
    rw [rS_2]
    refine g_ineg X dX4_harm_15 ?_
    refine g_goto X 25 dX4_harm_16 (by decide) ?_
    refine g_aload_n X dX4_harm_25 0 rfl rfl ?_
    refine g_getr X 0 (by omega) 3 (by decide) ku_X4 kv_X4 kf_X4_13 rfl lS_worn dX4_harm_26 ?_
    refine g_iload_n X dX4_harm_29 1 rfl rfl ?_
    refine g_ialdN X 1 j0 (by omega) lS_a1 (by omega) (by decide) dX4_harm_30 ?_
    rw [rS_1]
    refine g_iadd X dX4_harm_31 ?_
    refine g_aload_n X dX4_harm_32 0 rfl rfl ?_
    refine g_getr X 0 (by omega) 3 (by decide) ku_X4 kv_X4 kf_X4_13 rfl lS_worn dX4_harm_33 ?_
    refine g_iload_n X dX4_harm_36 1 rfl rfl ?_
    refine g_ialdN X 1 j0 (by omega) lS_a1 (by omega) (by decide) dX4_harm_37 ?_
    rw [rS_1]
    refine g_iadd X dX4_harm_38 ?_
    refine g_istore_n X [(2, .int _), (0, .ref _), (1, .int _)] dX4_harm_39 rfl (by decide) rfl ?_
    refine g_aload_n X dX4_harm_40 1 rfl rfl ?_
    refine g_getr X 0 (by omega) 5 (by decide) ku_X4 kv_X4 kf_X4_20 rfl lS_chirps dX4_harm_41 ?_
    refine g_iload_n X dX4_harm_44 2 rfl rfl ?_
    refine g_zaldN X 3 j0 (by omega) lS_a3 (by omega) (by decide) dX4_harm_45 ?_
    rw [rS_3]
    refine g_if_ne X 55 dX4_harm_46 (by decide) (fun c_4 => ?_) (fun c_4 => ?_)
    · skip
      have cC := c_4
      refine g_bipush X (v := 60) dX4_harm_55 (by decide) ?_
      refine g_goto X 61 dX4_harm_57 (by decide) ?_
      exact g_iret X hr hlk (by omega) (by omega) dX4_harm_61 (⟨hP_a cC, rfl⟩)
    · skip
      have cC := c_4
      refine g_iload_n X dX4_harm_49 0 rfl rfl ?_
      refine g_bipush X (v := 60) dX4_harm_50 (by decide) ?_
      refine g_icmp_le X 60 dX4_harm_52 (by decide) (fun c_5 => ?_) (fun c_5 => ?_)
      · skip
        have cD := c_5
        refine g_iload_n X dX4_harm_60 0 rfl rfl ?_
        exact g_iret X hr hlk (by omega) (by omega) dX4_harm_61 (⟨hP_b cC (by rw [ab_lt cA]) cD, rfl⟩)
      · skip
        have cD := c_5
        refine g_bipush X (v := 60) dX4_harm_55 (by decide) ?_
        refine g_goto X 61 dX4_harm_57 (by decide) ?_
        exact g_iret X hr hlk (by omega) (by omega) dX4_harm_61 (⟨hP_c cC (by rw [ab_lt cA]) cD, rfl⟩)

set_option maxHeartbeats 1000000 in
set_option maxRecDepth 100000 in
theorem c_X4_sound (l : Launch) (D : va_G) (cy : Nat → ClassId) (ad : Nat → Nat) (ρ : Nat → Nat → Int32) (S T : Nat) (Ln : Nat → Nat) (t : Nat) (ht : t < T) (hT6 : T ≤ 6) (hT0 : tunI ρ t) (hL0 : ρ (14 + 3 * t) 2 = nI (Ln t) ∧ Ln t ≤ 16) : gMI l yX4_sound cX4_sound 7 (some .int) { frames := 1, cells := 0, slots := 0, locals := 22 } D cy (8 + S + T) ad (cS ad cy S T Ln) [.ref (ad 0), .int (nI t)] (sR S ρ) (fun r ρ1 => r = sndC ρ 1 t (-1) ∧ ρ1 = sR S ρ) 0 0 := by
  refine gMI_of (ls := [(0, .ref (ad 0)), (1, .int (nI t))]) RX4 rfl (by decide +kernel) (Nat.le_of_ble_eq_true rfl) rfl ?_
  intro p e s m args below meth c A X hr hlk hnm
  obtain ⟨hLq, hLc⟩ := tunL hT0 hL0
  have hL16 := hL0.2
  refine g_aload_n X dX4_sound_0 0 rfl rfl ?_
  refine g_getr X 0 (by omega) 7 (by decide) ku_X4 kv_X4 kf_X4_28 rfl lS_tunes dX4_sound_1 ?_
  refine g_iload_n X dX4_sound_4 1 rfl rfl ?_
  refine g_aaldA X 5 t (by omega) lS_ts rfl (by omega) (by omega) dX4_sound_5 ?_
  refine g_alen (t0 := 0) X (8 + S + t) (by omega) (gAI.ln lS_tu) rfl dX4_sound_6 ?_
  refine g_if_ne X 12 dX4_sound_7 (by decide) (fun c_1 => ?_) (fun c_1 => ?_)
  · skip
    have cA := c_1
    refine g_iconst X (v := 0) dX4_sound_12 (by decide) ?_
    refine g_istore_n X [(2, .int _), (0, .ref _), (1, .int _)] dX4_sound_13 rfl (by decide) rfl ?_
    refine g_aload_n X dX4_sound_14 1 rfl rfl ?_
    refine g_getr X 0 (by omega) 7 (by decide) ku_X4 kv_X4 kf_X4_28 rfl lS_tunes dX4_sound_15 ?_
    refine g_iload_n X dX4_sound_18 2 rfl rfl ?_
    refine g_aaldA X 5 t (by omega) lS_ts rfl (by omega) (by omega) dX4_sound_19 ?_
    refine g_astore_n X [(3, .ref _), (2, .int _), (0, .ref _), (1, .int _)] dX4_sound_20 rfl (by decide) rfl ?_
    refine g_aload_n X dX4_sound_21 0 rfl rfl ?_
    refine g_alen (t0 := 0) X (8 + S + t) (by omega) (gAI.ln lS_tu) rfl dX4_sound_22 ?_
    refine g_istore X [(4, .int _), (3, .ref _), (2, .int _), (0, .ref _), (1, .int _)] dX4_sound_23 (by decide) rfl ?_
    refine g_iconst X (v := 0) dX4_sound_25 (by decide) ?_
    refine g_istore X [(5, .int _), (4, .int _), (3, .ref _), (2, .int _), (0, .ref _), (1, .int _)] dX4_sound_26 (by decide) rfl ?_
    refine g_ls (ls' := [(0, .ref _), (1, .int _), (2, .int _), (3, .ref _), (4, .int _), (5, .int _)]) [4, 5, 3, 2, 1, 0] rfl ?_
    refine g_loop (fun _ => True) (fun _ => sR S ρ) (fun i => [(0, .ref (ad 0)), (1, .int (nI t)), (2, .int (sumI (sdS ρ t) i)), (3, .ref (ad (8 + S + t))), (4, .int (nI (Ln t))), (5, .int (nI i))]) (fun _ => 0) (fun _ => 0) (Ln t) 0 trivial (by omega) rfl rfl rfl rfl (fun i h0i hi hIi ihi => ?_)
    refine g_iload X dX4_sound_28 5 rfl ?_
    refine g_iload X dX4_sound_30 4 rfl ?_
    refine g_icmp_geN X i (Ln t) 56 (by omega) (by omega) dX4_sound_32 (by decide) (fun c_2 => ?_) (fun c_2 => ?_)
    · skip
      refine g_bipush X (v := 60) dX4_sound_56 (by decide) ?_
      refine g_iload_n X dX4_sound_58 2 rfl rfl ?_
      refine g_aload_n X dX4_sound_59 0 rfl rfl ?_
      refine g_getr X 0 (by omega) 7 (by decide) ku_X4 kv_X4 kf_X4_28 rfl lS_tunes dX4_sound_60 ?_
      refine g_iload_n X dX4_sound_63 1 rfl rfl ?_
      refine g_aaldA X 5 t (by omega) lS_ts rfl (by omega) (by omega) dX4_sound_64 ?_
      refine g_alen (t0 := 0) X (8 + S + t) (by omega) (gAI.ln lS_tu) rfl dX4_sound_65 ?_
      refine g_idiv X dX4_sound_66 cA ?_
      refine g_isub X dX4_sound_67 ?_
      exact g_iret X hr hlk (by omega) (by omega) dX4_sound_68 (⟨by rw [snd_sim hT0 hL0, if_neg cA, show i = Ln t by omega], rfl⟩)
    · skip
      refine g_aload_n X dX4_sound_35 3 rfl rfl ?_
      refine g_iload X dX4_sound_36 5 rfl ?_
      refine g_ialdN X (8 + S + t) i (by omega) lS_tu (by omega) (by omega) dX4_sound_38 ?_
      rw [rS_tu (by omega)]
      obtain ⟨q, hq, eq9⟩ := hLq i (by omega)
      rw [eq9]
      refine g_istore X [(6, .int _), (0, .ref _), (1, .int _), (2, .int _), (3, .ref _), (4, .int _), (5, .int _)] dX4_sound_39 (by decide) rfl ?_
      refine g_iload_n X dX4_sound_41 3 rfl rfl ?_
      refine g_aload_n X dX4_sound_42 1 rfl rfl ?_
      refine g_iload X dX4_sound_43 0 rfl ?_
      refine g_mcallVi X 0 (c_X4_harm l D cy ad ρ S T Ln q (by omega)) kl_X4_38 ⟨rfl, rfl, Nat.le_of_ble_eq_true rfl, Nat.le_of_ble_eq_true rfl⟩ (by omega) lS_O kv_X4 rfl rfl (Nat.le_of_ble_eq_true rfl) dX4_sound_45 ⟨Nat.le_of_ble_eq_true rfl, Nat.le_of_ble_eq_true rfl⟩ (fun r_4 ρ_3 h_5 => ?_)
      obtain ⟨er_4, eρ_3⟩ := h_5
      rw [er_4, eρ_3]
      refine g_iadd X dX4_sound_48 ?_
      refine g_istore_n X [(2, .int _), (6, .int _), (0, .ref _), (1, .int _), (3, .ref _), (4, .int _), (5, .int _)] dX4_sound_49 rfl (by decide) rfl ?_
      refine g_iincN X i 5 [(5, .int _), (2, .int _), (6, .int _), (0, .ref _), (1, .int _), (3, .ref _), (4, .int _)] 6 dX4_sound_50 rfl (by decide) rfl ?_
      refine g_goto X 28 dX4_sound_53 (by decide) ?_
      refine g_ls (ls' := [(0, .ref _), (1, .int _), (2, .int _), (3, .ref _), (4, .int _), (5, .int _)]) [3, 4, 1, 5, 6, 0] rfl ?_
      exact g_eqv (ihi (by omega) trivial) (by simp only [sumI_s, sdS, eq9, show ix (nI q) = q from nI_clamp (by omega)]) (rfl) rfl rfl
  · skip
    have cA := c_1
    refine g_iconst X (v := 0) dX4_sound_10 (by decide) ?_
    exact g_iret X hr hlk (by omega) (by omega) dX4_sound_11 (⟨by rw [snd_sim hT0 hL0, if_pos cA], rfl⟩)

set_option maxHeartbeats 1000000 in
set_option maxRecDepth 100000 in
theorem c_X4_pays (l : Launch) (D : va_G) (cy : Nat → ClassId) (ad : Nat → Nat) (ρ : Nat → Nat → Int32) (S T : Nat) (Ln : Nat → Nat) (z t : Nat) (hz : z < S) (ht : t < T) (hT6 : T ≤ 6) (hS8 : S ≤ 8) (hT0 : tunI ρ t) (hL0 : ρ (14 + 3 * t) 2 = nI (Ln t) ∧ Ln t ≤ 16) (hpo : payOK ρ z t (sndC ρ 1 t (-1))) : gMI l yX4_pays cX4_pays 5 (some .int) { frames := 2, cells := 0, slots := 0, locals := 48 } D cy (8 + S + T) ad (cS ad cy S T Ln) [.ref (ad 0), .int (nI z), .int (nI t)] (sR S ρ) (fun r ρ1 => r = pyN ρ z t ∧ ρ1 = sR S ρ) 0 0 := by
  refine gMI_of (ls := [(0, .ref (ad 0)), (1, .int (nI z)), (2, .int (nI t))]) RX4 rfl (by decide +kernel) (Nat.le_of_ble_eq_true rfl) rfl ?_
  intro p e s m args below meth c A X hr hlk hnm
  obtain ⟨P, h, hP1, hP20, hh, hh31⟩ := hpo
  refine g_aload_n X dX4_pays_0 0 rfl rfl ?_
  refine g_getr X 0 (by omega) 8 (by decide) ku_X4 kv_X4 kf_X4_32 rfl lS_streets dX4_pays_1 ?_
  refine g_iload_n X dX4_pays_4 1 rfl rfl ?_
  refine g_aaldA X 6 z (by omega) lS_ss rfl (by omega) (by omega) dX4_pays_5 ?_
  refine g_iconst X (v := 0) dX4_pays_6 (by decide) ?_
  refine g_ialdN X (8 + z) 0 (by omega) (lS_st (by omega)) (by omega) (by decide) dX4_pays_7 ?_
  rw [rS_s0 (by omega)]
  refine g_aload_n X dX4_pays_8 0 rfl rfl ?_
  refine g_iload_n X dX4_pays_9 2 rfl rfl ?_
  refine g_mcallVi X 0 (c_X4_sound l D cy ad ρ S T Ln t (by omega) hT6 hT0 hL0) kl_X4_42 ⟨rfl, rfl, Nat.le_of_ble_eq_true rfl, Nat.le_of_ble_eq_true rfl⟩ (by omega) lS_O kv_X4 rfl rfl (Nat.le_of_ble_eq_true rfl) dX4_pays_10 ⟨Nat.le_of_ble_eq_true rfl, Nat.le_of_ble_eq_true rfl⟩ (fun r_2 ρ_1 h_3 => ?_)
  obtain ⟨er_2, eρ_1⟩ := h_3
  rw [er_2, eρ_1]
  refine g_imul X dX4_pays_13 ?_
  refine g_bipush X (v := 60) dX4_pays_14 (by decide) ?_
  refine g_idiv X dX4_pays_16 (by decide) ?_
  rw [show ρ (32 + 2 * z) 1 * sndC ρ 1 t (-1) / 60 = nI P from hP1]
  refine g_istore_n X [(3, .int _), (0, .ref _), (1, .int _), (2, .int _)] dX4_pays_17 rfl (by decide) rfl ?_
  refine g_iconst X (v := 0) dX4_pays_18 (by decide) ?_
  refine g_istore X [(4, .int _), (3, .int _), (0, .ref _), (1, .int _), (2, .int _)] dX4_pays_19 (by decide) rfl ?_
  refine g_ls (ls' := [(0, .ref _), (1, .int _), (2, .int _), (3, .int _), (4, .int _)]) [2, 3, 4, 1, 0] rfl ?_
  refine g_loop (fun _ => True) (fun _ => sR S ρ) (fun i => [(0, .ref (ad 0)), (1, .int (nI z)), (2, .int (nI t)), (3, .int (nI (P / 2 ^ i))), (4, .int (nI i))]) (fun _ => (0 + 0)) (fun _ => (0 + 0)) h 0 trivial (by omega) (by simp [nI_zero]) rfl rfl rfl (fun i h0i hi hIi ihi => ?_)
  refine g_iload X dX4_pays_21 4 rfl ?_
  refine g_aload_n X dX4_pays_23 0 rfl rfl ?_
  refine g_getr X 0 (by omega) 8 (by decide) ku_X4 kv_X4 kf_X4_32 rfl lS_streets dX4_pays_24 ?_
  refine g_iload_n X dX4_pays_27 1 rfl rfl ?_
  refine g_aaldA X 6 z (by omega) lS_ss rfl (by omega) (by omega) dX4_pays_28 ?_
  refine g_iconst X (v := 3) dX4_pays_29 (by decide) ?_
  refine g_iload_n X dX4_pays_30 2 rfl rfl ?_
  refine g_iadd X dX4_pays_31 ?_
  rw [show (3 : Int32) + nI t = nI (3 + t) from nI_add 3 t]
  refine g_ialdN X (8 + z) (3 + t) (by omega) (lS_st (by omega)) (by omega) (by decide) dX4_pays_32 ?_
  rw [rS_sh (by omega)]
  rw [hh]
  refine g_icmp_geN X i h 46 (by omega) (by omega) dX4_pays_33 (by decide) (fun c_4 => ?_) (fun c_4 => ?_)
  · skip
    refine g_iload_n X dX4_pays_46 3 rfl rfl ?_
    exact g_iret X hr hlk (by omega) (by omega) dX4_pays_47 (by refine ⟨?_, rfl⟩; simp only [pyN, payV]; rw [hP1, hh, nI_clamp (by omega), nI_clamp hh31, show i = h by omega])
  · skip
    refine g_iload_n X dX4_pays_36 3 rfl rfl ?_
    refine g_iconst X (v := 2) dX4_pays_37 (by decide) ?_
    refine g_idiv X dX4_pays_38 (by decide) ?_
    rw [halfN hP20]
    refine g_istore_n X [(3, .int _), (0, .ref _), (1, .int _), (2, .int _), (4, .int _)] dX4_pays_39 rfl (by decide) rfl ?_
    refine g_iincN X i 4 [(4, .int _), (3, .int _), (0, .ref _), (1, .int _), (2, .int _)] 4 dX4_pays_40 rfl (by decide) rfl ?_
    refine g_goto X 21 dX4_pays_43 (by decide) ?_
    refine g_ls (ls' := [(0, .ref _), (1, .int _), (2, .int _), (3, .int _), (4, .int _)]) [2, 3, 4, 1, 0] rfl ?_
    exact g_eqv (ihi (by omega) trivial) (rfl) (rfl) rfl rfl

set_option maxHeartbeats 1000000 in
set_option maxRecDepth 100000 in
theorem c_X4_sing (l : Launch) (D : va_G) (cy : Nat → ClassId) (ad : Nat → Nat) (ρ : Nat → Nat → Int32) (S T : Nat) (Ln : Nat → Nat) (t : Nat) (ht : t < T) (hT6 : T ≤ 6) (hT0 : tunI ρ t) (hL0 : ρ (14 + 3 * t) 2 = nI (Ln t) ∧ Ln t ≤ 16) (hw : ∀ i, i < 12 → ∃ w : Nat, w ≤ 30 ∧ ρ 2 i = nI w) : gMV l yX4_sing cX4_sing 6 none { frames := 0, cells := 0, slots := 0, locals := 0 } D cy (8 + S + T) ad (cS ad cy S T Ln) [.ref (ad 0), .int (nI t)] (sR S ρ) (fun ρ1 => ρ1 = sR S (wdR ρ 1 t 12)) 0 0 := by
  refine gMV_of (ls := [(0, .ref (ad 0)), (1, .int (nI t))]) RX4 rfl (by decide +kernel) (Nat.le_of_ble_eq_true rfl) rfl ?_
  intro p e s m args below meth c A X hr hlk hnm
  obtain ⟨hLq, hLc⟩ := tunL hT0 hL0
  have hL16 := hL0.2
  refine g_aload_n X dX4_sing_0 0 rfl rfl ?_
  refine g_getr X 0 (by omega) 7 (by decide) ku_X4 kv_X4 kf_X4_28 rfl lS_tunes dX4_sing_1 ?_
  refine g_iload_n X dX4_sing_4 1 rfl rfl ?_
  refine g_aaldA X 5 t (by omega) lS_ts rfl (by omega) (by omega) dX4_sing_5 ?_
  refine g_astore_n X [(2, .ref _), (0, .ref _), (1, .int _)] dX4_sing_6 rfl (by decide) rfl ?_
  refine g_aload_n X dX4_sing_7 0 rfl rfl ?_
  refine g_alen (t0 := 0) X (8 + S + t) (by omega) (gAI.ln lS_tu) rfl dX4_sing_8 ?_
  refine g_istore_n X [(3, .int _), (2, .ref _), (0, .ref _), (1, .int _)] dX4_sing_9 rfl (by decide) rfl ?_
  refine g_iconst X (v := 0) dX4_sing_10 (by decide) ?_
  refine g_istore X [(4, .int _), (3, .int _), (2, .ref _), (0, .ref _), (1, .int _)] dX4_sing_11 (by decide) rfl ?_
  refine g_ls (ls' := [(0, .ref _), (1, .int _), (2, .ref _), (3, .int _), (4, .int _)]) [3, 4, 2, 1, 0] rfl ?_
  refine g_loop (fun _ => True) (fun i => sR S (sgR ρ 1 t i)) (fun i => [(0, .ref (ad 0)), (1, .int (nI t)), (2, .ref (ad (8 + S + t))), (3, .int (nI (Ln t))), (4, .int (nI i))]) (fun _ => 0) (fun _ => 0) (Ln t) 0 trivial (by omega) rfl rfl rfl rfl (fun i h0i hi hIi ihi => ?_)
  obtain ⟨ρa, eρa⟩ : ∃ ρz, ρz = sgR ρ 1 t i := ⟨_, rfl⟩
  rw [← eρa]
  have qt : ∀ k, ρa (15 + 3 * t) k = ρ (15 + 3 * t) k := fun k => by rw [eρa, sg_out (by omega) (by omega)]
  have qw : ∀ q, q < 12 → ∃ w : Nat, w ≤ 30 ∧ ρa 2 q = nI w := fun q hq => by rw [eρa]; exact sg_w hw q hq
  refine g_iload X dX4_sing_13 4 rfl ?_
  refine g_iload_n X dX4_sing_15 3 rfl rfl ?_
  refine g_icmp_geN X i (Ln t) 62 (by omega) (by omega) dX4_sing_16 (by decide) (fun c_1 => ?_) (fun c_1 => ?_)
  · skip
    exact g_vret X hr hlk (by omega) (by omega) dX4_sing_62 (by subst_vars; rw [show i = Ln t by omega, sg_wd hL16 hLq hLc hw])
  · skip
    refine g_aload_n X dX4_sing_19 2 rfl rfl ?_
    refine g_iload X dX4_sing_20 4 rfl ?_
    refine g_ialdN X (8 + S + t) i (by omega) lS_tu (by omega) (by omega) dX4_sing_22 ?_
    rw [rS_tu (by omega)]
    obtain ⟨q, hq, eq9⟩ := hLq i (by omega)
    rw [qt, eq9]
    obtain ⟨w, hw9, ew⟩ := qw q hq
    refine g_istore X [(5, .int _), (0, .ref _), (1, .int _), (2, .ref _), (3, .int _), (4, .int _)] dX4_sing_23 (by decide) rfl ?_
    refine g_aload_n X dX4_sing_25 1 rfl rfl ?_
    refine g_getr X 0 (by omega) 3 (by decide) ku_X4 kv_X4 kf_X4_13 rfl lS_worn dX4_sing_26 ?_
    refine g_iload X dX4_sing_29 0 rfl ?_
    refine g_ialdN X 1 q (by omega) lS_a1 (by omega) (by decide) dX4_sing_31 ?_
    rw [rS_1]
    rw [ew]
    refine g_bipush X (v := 30) dX4_sing_32 (by decide) ?_
    refine g_icmp_geN X w 30 48 (by omega) (by omega) dX4_sing_34 (by decide) (fun c_2 => ?_) (fun c_2 => ?_)
    · skip
      have cW := c_2
      refine g_aload_n X dX4_sing_48 1 rfl rfl ?_
      refine g_getr X 0 (by omega) 6 (by decide) ku_X4 kv_X4 kf_X4_24 rfl lS_sang dX4_sing_49 ?_
      refine g_iload X dX4_sing_52 0 rfl ?_
      refine g_iconst X (v := 1) dX4_sing_54 (by decide) ?_
      refine g_zastN X 4 q (by omega) lS_a4 vp_z1 (by omega) (by decide) dX4_sing_55 (fun ρ_3 eρ_3 => ?_)
      obtain ⟨σ_4, sσ_4, rfl⟩ := wX eρ_3 wS_4
      refine g_iincN X i 4 [(4, .int _), (5, .int _), (0, .ref _), (1, .int _), (2, .ref _), (3, .int _)] 5 dX4_sing_56 rfl (by decide) rfl ?_
      refine g_goto X 13 dX4_sing_59 (by decide) ?_
      refine g_ls (ls' := [(0, .ref _), (1, .int _), (2, .ref _), (3, .int _), (4, .int _)]) [2, 3, 4, 5, 0] rfl ?_
      exact g_eqv (ihi (by omega) trivial) (rfl) (by
          refine congrArg (sR S) ?_
          subst_vars
          show _ = snR (sgR ρ 1 t i) 1 (ix (ρ (15 + 3 * t) i))
          rw [eq9, show ix (nI q) = q from nI_clamp (by omega)]
          first | exact sg_s1 ew cW | exact sg_s2 ew cW hw9) rfl rfl
    · skip
      have cW : w < 30 := by omega
      refine g_aload_n X dX4_sing_37 1 rfl rfl ?_
      refine g_getr X 0 (by omega) 3 (by decide) ku_X4 kv_X4 kf_X4_13 rfl lS_worn dX4_sing_38 ?_
      refine g_iload X dX4_sing_41 0 rfl ?_
      refine g_dup2 X dX4_sing_43 rfl rfl ?_
      refine g_ialdN X 1 q (by omega) lS_a1 (by omega) (by decide) dX4_sing_44 ?_
      rw [rS_1]
      rw [ew]
      refine g_iconst X (v := 1) dX4_sing_45 (by decide) ?_
      refine g_iadd X dX4_sing_46 ?_
      rw [nI_1]
      refine g_iastN X 1 q (by omega) lS_a1 (by omega) (by decide) dX4_sing_47 (fun ρ_5 eρ_5 => ?_)
      obtain ⟨σ_6, sσ_6, rfl⟩ := wX eρ_5 wS_1
      refine g_aload_n X dX4_sing_48 1 rfl rfl ?_
      refine g_getr X 0 (by omega) 6 (by decide) ku_X4 kv_X4 kf_X4_24 rfl lS_sang dX4_sing_49 ?_
      refine g_iload X dX4_sing_52 0 rfl ?_
      refine g_iconst X (v := 1) dX4_sing_54 (by decide) ?_
      refine g_zastN X 4 q (by omega) lS_a4 vp_z1 (by omega) (by decide) dX4_sing_55 (fun ρ_7 eρ_7 => ?_)
      obtain ⟨σ_8, sσ_8, rfl⟩ := wX eρ_7 wS_4
      refine g_iincN X i 4 [(4, .int _), (5, .int _), (0, .ref _), (1, .int _), (2, .ref _), (3, .int _)] 5 dX4_sing_56 rfl (by decide) rfl ?_
      refine g_goto X 13 dX4_sing_59 (by decide) ?_
      refine g_ls (ls' := [(0, .ref _), (1, .int _), (2, .ref _), (3, .int _), (4, .int _)]) [2, 3, 4, 5, 0] rfl ?_
      exact g_eqv (ihi (by omega) trivial) (rfl) (by
          refine congrArg (sR S) ?_
          subst_vars
          show _ = snR (sgR ρ 1 t i) 1 (ix (ρ (15 + 3 * t) i))
          rw [eq9, show ix (nI q) = q from nI_clamp (by omega)]
          first | exact sg_s1 ew cW | exact sg_s2 ew cW hw9) rfl rfl

set_option maxHeartbeats 1000000 in
set_option maxRecDepth 100000 in
theorem c_X4_play (l : Launch) (D : va_G) (cy : Nat → ClassId) (ad : Nat → Nat) (ρ : Nat → Nat → Int32) (S T : Nat) (Ln : Nat → Nat) (z t d : Nat) (hz : z < S) (ht : t < T) (hT6 : T ≤ 6) (hS8 : S ≤ 8) (hT0 : tunI ρ t) (hL0 : ρ (14 + 3 * t) 2 = nI (Ln t) ∧ Ln t ≤ 16) (hpo : payOK ρ z t (sndC ρ 1 t (-1))) (hwd : wdF ρ = nI (d % 7)) (hd : ρ 0 7 = nI d) (hd31 : d < 2 ^ 30) (hpm : ∃ u : Nat, u ≤ 127 ∧ ρ (32 + 2 * z) 2 = nI u) (hw : ∀ i, i < 12 → ∃ w : Nat, w ≤ 30 ∧ ρ 2 i = nI w) : gMI l yX4_play cX4_play 5 (some .int) { frames := 3, cells := 0, slots := 0, locals := 72 } D cy (8 + S + T) ad (cS ad cy S T Ln) [.ref (ad 0), .int (nI z), .int (nI t)] (sR S ρ) (fun r ρ1 => r = plV ρ z t ∧ ρ1 = sR S (plR ρ z t)) 0 0 := by
  refine gMI_of (ls := [(0, .ref (ad 0)), (1, .int (nI z)), (2, .int (nI t))]) RX4 rfl (by decide +kernel) (Nat.le_of_ble_eq_true rfl) rfl ?_
  intro p e s m args below meth c A X hr hlk hnm
  obtain ⟨u, hu, eu⟩ := hpm
  refine g_aload_n X dX4_play_0 0 rfl rfl ?_
  refine g_getr X 0 (by omega) 8 (by decide) ku_X4 kv_X4 kf_X4_32 rfl lS_streets dX4_play_1 ?_
  refine g_iload_n X dX4_play_4 1 rfl rfl ?_
  refine g_aaldA X 6 z (by omega) lS_ss rfl (by omega) (by omega) dX4_play_5 ?_
  refine g_astore_n X [(3, .ref _), (0, .ref _), (1, .int _), (2, .int _)] dX4_play_6 rfl (by decide) rfl ?_
  refine g_aload_n X dX4_play_7 0 rfl rfl ?_
  refine g_iconst X (v := 1) dX4_play_8 (by decide) ?_
  refine g_ialdN X (8 + z) 1 (by omega) (lS_st (by omega)) (by omega) (by decide) dX4_play_9 ?_
  rw [rS_s1 (by omega)]
  rw [eu]
  refine g_iconst X (v := 1) dX4_play_10 (by decide) ?_
  refine g_aload_n X dX4_play_11 1 rfl rfl ?_
  refine g_geti X 0 (by omega) 0 (by decide) ku_X4 kv_X4 kf_X4_45 rfl lS_day dX4_play_12 ?_
  rw [rS_day, hd]
  refine g_bipush X (v := 7) dX4_play_15 (by decide) ?_
  refine g_irem X dX4_play_17 (by decide) ?_
  rw [remN7 (by omega)]
  refine g_ishl X dX4_play_18 ?_
  refine g_iand X dX4_play_19 ?_
  refine g_if_ne X 69 dX4_play_20 (by decide) (fun c_1 => ?_) (fun c_1 => ?_)
  · skip
    have cP : ¬ pmF (ρ (32 + 2 * z) 2) (wdF ρ) = 0 := by rw [eu, hwd]; exact fun q => c_1 ((pm_sh hu (by omega)).mpr q)
    refine g_aload_n X dX4_play_69 1 rfl rfl ?_
    refine g_iload_n X dX4_play_70 2 rfl rfl ?_
    refine g_iload_n X dX4_play_71 3 rfl rfl ?_
    refine g_mcallVi X 0 (c_X4_pays l D cy ad ρ S T Ln z t (by omega) (by omega) hT6 hS8 hT0 hL0 hpo) kl_X4_51 ⟨rfl, rfl, Nat.le_of_ble_eq_true rfl, Nat.le_of_ble_eq_true rfl⟩ (by omega) lS_O kv_X4 rfl rfl (Nat.le_of_ble_eq_true rfl) dX4_play_72 ⟨Nat.le_of_ble_eq_true rfl, Nat.le_of_ble_eq_true rfl⟩ (fun r_3 ρ_2 h_4 => ?_)
    obtain ⟨er_3, eρ_2⟩ := h_4
    rw [er_3, eρ_2]
    refine g_istore X [(4, .int _), (3, .ref _), (0, .ref _), (1, .int _), (2, .int _)] dX4_play_75 (by decide) rfl ?_
    refine g_aload_n X dX4_play_77 2 rfl rfl ?_
    refine g_dup X dX4_play_78 rfl ?_
    refine g_geti X 0 (by omega) 1 (by decide) ku_X4 kv_X4 kf_X4_7 rfl lS_coins dX4_play_79 ?_
    rw [rS_coins]
    refine g_iload X dX4_play_82 0 rfl ?_
    refine g_iadd X dX4_play_84 ?_
    refine g_puti X 0 (by omega) 1 (by decide) ku_X4 kv_X4 kf_X4_7 rfl tyX4 tyX4_ok nmX4 rfl (by decide +kernel) lS_coins dX4_play_85 (fun ρ_5 eρ_5 => ?_)
    obtain ⟨σ_6, sσ_6, rfl⟩ := wX eρ_5 wS_coins
    refine g_aload_n X dX4_play_88 1 rfl rfl ?_
    refine g_iconst X (v := 2) dX4_play_89 (by decide) ?_
    refine g_dup2 X dX4_play_90 rfl rfl ?_
    refine g_ialdN X (8 + z) 2 (by omega) (lS_st (by omega)) (by omega) (by decide) dX4_play_91 ?_
    rw [rS_s2 (by omega)]
    rw [show σ_6 (32 + 2 * z) 3 = ρ (32 + 2 * z) 3 by subst_vars; rw [up2_k (by omega)]]
    refine g_iload X dX4_play_92 0 rfl ?_
    refine g_iadd X dX4_play_94 ?_
    refine g_iastN X (8 + z) 2 (by omega) (lS_st (by omega)) (by omega) (by decide) dX4_play_95 (fun ρ_7 eρ_7 => ?_)
    obtain ⟨σ_8, sσ_8, rfl⟩ := wX eρ_7 (wS_s2 (by omega))
    refine g_aload_n X dX4_play_96 1 rfl rfl ?_
    refine g_iconst X (v := 3) dX4_play_97 (by decide) ?_
    refine g_iload_n X dX4_play_98 4 rfl rfl ?_
    refine g_iadd X dX4_play_99 ?_
    rw [show (3 : Int32) + nI t = nI (3 + t) from nI_add 3 t]
    refine g_dup2 X dX4_play_100 rfl rfl ?_
    refine g_ialdN X (8 + z) (3 + t) (by omega) (lS_st (by omega)) (by omega) (by decide) dX4_play_101 ?_
    rw [rS_sh (by omega)]
    rw [show σ_8 (33 + 2 * z) t = ρ (33 + 2 * z) t by subst_vars; rw [up2_k (by omega), up2_k (by omega)]]
    refine g_iconst X (v := 1) dX4_play_102 (by decide) ?_
    refine g_iadd X dX4_play_103 ?_
    refine g_iastN X (8 + z) (3 + t) (by omega) (lS_st (by omega)) (by omega) (by decide) dX4_play_104 (fun ρ_9 eρ_9 => ?_)
    obtain ⟨σ_10, sσ_10, rfl⟩ := wX eρ_9 (wS_sh (by omega))
    have hk : ∀ k, k ≠ 0 → k ≠ 32 + 2 * z → k ≠ 33 + 2 * z → σ_10 k = ρ k := fun k h1 h2 h3 => by subst_vars; funext j; rw [up2_k h3, up2_k h2, up2_k h1]
    have hT9 : tunI σ_10 t := tun_cg hT0 (fun k h1 h2 => hk k (by omega) (by omega) (by omega))
    have hL9 : σ_10 (14 + 3 * t) 2 = nI (Ln t) ∧ Ln t ≤ 16 := by rw [hk _ (by omega) (by omega) (by omega)]; exact hL0
    have hw9 : ∀ i, i < 12 → ∃ w : Nat, w ≤ 30 ∧ σ_10 2 i = nI w := fun i hi => by rw [hk 2 (by omega) (by omega) (by omega)]; exact hw i hi
    refine g_aload_n X dX4_play_105 2 rfl rfl ?_
    refine g_iload_n X dX4_play_106 4 rfl rfl ?_
    refine g_mcallVv X 0 (c_X4_sing l D cy ad σ_10 S T Ln t (by omega) hT6 hT9 hL9 hw9) kl_X4_55 ⟨rfl, rfl, Nat.le_of_ble_eq_true rfl, Nat.le_of_ble_eq_true rfl⟩ (by omega) lS_O kv_X4 rfl rfl (Nat.le_of_ble_eq_true rfl) dX4_play_107 ⟨Nat.le_of_ble_eq_true rfl, Nat.le_of_ble_eq_true rfl⟩ (fun ρ_11 h_13 => ?_)
    rw [h_13]
    refine g_iload X dX4_play_110 0 rfl ?_
    exact g_iret X hr hlk (by omega) (by omega) dX4_play_112 (by unfold plV plR; rw [if_neg cP, if_neg cP]; subst_vars; exact ⟨rfl, rfl⟩)
  · skip
    have cP : pmF (ρ (32 + 2 * z) 2) (wdF ρ) = 0 := by rw [eu, hwd]; exact (pm_sh hu (by omega)).mp c_1
    refine g_join 41 (mnI 10 (ρ 0 8)) (fun kj_14 => ?_) ?_
    · skip
      refine g_aload_n X dX4_play_23 1 rfl rfl ?_
      refine g_geti X 0 (by omega) 1 (by decide) ku_X4 kv_X4 kf_X4_7 rfl lS_coins dX4_play_24 ?_
      rw [rS_coins]
      refine g_bipush X (v := 10) dX4_play_27 (by decide) ?_
      refine g_icmp_le X 37 dX4_play_29 (by decide) (fun c_15 => ?_) (fun c_15 => ?_)
      · skip
        have cJ := c_15
        refine g_aload_n X dX4_play_37 1 rfl rfl ?_
        refine g_geti X 0 (by omega) 1 (by decide) ku_X4 kv_X4 kf_X4_7 rfl lS_coins dX4_play_38 ?_
        rw [rS_coins]
        exact kj_14 _ ((mn10_le cJ).symm)
      · skip
        have cJ := c_15
        refine g_bipush X (v := 10) dX4_play_32 (by decide) ?_
        refine g_goto X 41 dX4_play_34 (by decide) ?_
        exact kj_14 _ ((mn10_gt cJ).symm)
    refine g_istore X [(4, .int _), (3, .ref _), (0, .ref _), (1, .int _), (2, .int _)] dX4_play_41 (by decide) rfl ?_
    refine g_aload_n X dX4_play_43 2 rfl rfl ?_
    refine g_dup X dX4_play_44 rfl ?_
    refine g_geti X 0 (by omega) 1 (by decide) ku_X4 kv_X4 kf_X4_7 rfl lS_coins dX4_play_45 ?_
    rw [rS_coins]
    refine g_iload X dX4_play_48 0 rfl ?_
    refine g_isub X dX4_play_50 ?_
    refine g_puti X 0 (by omega) 1 (by decide) ku_X4 kv_X4 kf_X4_7 rfl tyX4 tyX4_ok nmX4 rfl (by decide +kernel) lS_coins dX4_play_51 (fun ρ_16 eρ_16 => ?_)
    obtain ⟨σ_17, sσ_17, rfl⟩ := wX eρ_16 wS_coins
    refine g_aload_n X dX4_play_54 2 rfl rfl ?_
    refine g_dup X dX4_play_55 rfl ?_
    refine g_geti X 0 (by omega) 2 (by decide) ku_X4 kv_X4 kf_X4_48 rfl lS_fines dX4_play_56 ?_
    rw [rS_fines]
    refine g_iload X dX4_play_59 0 rfl ?_
    refine g_iadd X dX4_play_61 ?_
    refine g_puti X 0 (by omega) 2 (by decide) ku_X4 kv_X4 kf_X4_48 rfl tyX4 tyX4_ok nmX4 rfl (by decide +kernel) lS_fines dX4_play_62 (fun ρ_18 eρ_18 => ?_)
    obtain ⟨σ_19, sσ_19, rfl⟩ := wX eρ_18 wS_fines
    refine g_iload X dX4_play_65 0 rfl ?_
    refine g_ineg X dX4_play_67 ?_
    exact g_iret X hr hlk (by omega) (by omega) dX4_play_68 (by unfold plV plR; rw [if_pos cP, if_pos cP]; subst_vars; exact ⟨rfl, rfl⟩)

set_option maxHeartbeats 1000000 in
set_option maxRecDepth 100000 in
theorem c_X4_crickets (l : Launch) (D : va_G) (cy : Nat → ClassId) (ad : Nat → Nat) (ρ : Nat → Nat → Int32) (S T : Nat) (Ln : Nat → Nat)  : gMI l yX4_crickets cX4_crickets 6 (some .int) { frames := 0, cells := 0, slots := 0, locals := 0 } D cy (8 + S + T) ad (cS ad cy S T Ln) [.ref (ad 0)] (sR S ρ) (fun r ρ1 => r = crc ρ 1 ∧ ρ1 = sR S ρ) 0 0 := by
  refine gMI_of (ls := [(0, .ref (ad 0))]) RX4 rfl (by decide +kernel) (Nat.le_of_ble_eq_true rfl) rfl ?_
  intro p e s m args below meth c A X hr hlk hnm
  refine g_iconst X (v := 0) dX4_crickets_0 (by decide) ?_
  refine g_istore_n X [(1, .int _), (0, .ref _)] dX4_crickets_1 rfl (by decide) rfl ?_
  refine g_aload_n X dX4_crickets_2 1 rfl rfl ?_
  refine g_getr X 0 (by omega) 5 (by decide) ku_X4 kv_X4 kf_X4_20 rfl lS_chirps dX4_crickets_3 ?_
  refine g_astore_n X [(2, .ref _), (1, .int _), (0, .ref _)] dX4_crickets_6 rfl (by decide) rfl ?_
  refine g_aload_n X dX4_crickets_7 0 rfl rfl ?_
  refine g_alen (t0 := 1) X 3 (by omega) (gAI.ln lS_a3) rfl dX4_crickets_8 ?_
  refine g_istore_n X [(3, .int _), (2, .ref _), (1, .int _), (0, .ref _)] dX4_crickets_9 rfl (by decide) rfl ?_
  refine g_iconst X (v := 0) dX4_crickets_10 (by decide) ?_
  refine g_istore X [(4, .int _), (3, .int _), (2, .ref _), (1, .int _), (0, .ref _)] dX4_crickets_11 (by decide) rfl ?_
  refine g_ls (ls' := [(0, .ref _), (1, .int _), (2, .ref _), (3, .int _), (4, .int _)]) [4, 3, 2, 1, 0] rfl ?_
  refine g_loop (fun _ => True) (fun _ => sR S ρ) (fun i => [(0, .ref (ad 0)), (1, .int (sumI (fun j => b01 (ρ 4 j)) i)), (2, .ref (ad 3)), (3, .int (nI 12)), (4, .int (nI i))]) (fun _ => 0) (fun _ => 0) 12 0 trivial (by omega) rfl rfl rfl rfl (fun i h0i hi hIi ihi => ?_)
  refine g_iload X dX4_crickets_13 4 rfl ?_
  refine g_iload_n X dX4_crickets_15 3 rfl rfl ?_
  refine g_icmp_geN X i 12 44 (by omega) (by omega) dX4_crickets_16 (by decide) (fun c_1 => ?_) (fun c_1 => ?_)
  · skip
    refine g_iload_n X dX4_crickets_44 1 rfl rfl ?_
    exact g_iret X hr hlk (by omega) (by omega) dX4_crickets_45 (by rw [show i = 12 by omega]; exact ⟨rfl, rfl⟩)
  · skip
    refine g_aload_n X dX4_crickets_19 2 rfl rfl ?_
    refine g_iload X dX4_crickets_20 4 rfl ?_
    refine g_zaldN X 3 i (by omega) lS_a3 (by omega) (by decide) dX4_crickets_22 ?_
    rw [rS_3]
    refine g_istore X [(5, .int _), (0, .ref _), (1, .int _), (2, .ref _), (3, .int _), (4, .int _)] dX4_crickets_23 (by decide) rfl ?_
    refine g_iload_n X dX4_crickets_25 2 rfl rfl ?_
    refine g_join 36 (b01 (ρ 4 i)) (fun kj_2 => ?_) ?_
    · skip
      refine g_iload X dX4_crickets_26 0 rfl ?_
      refine g_if_eq X 35 dX4_crickets_28 (by decide) (fun c_3 => ?_) (fun c_3 => ?_)
      · skip
        have cJ := c_3
        refine g_iconst X (v := 0) dX4_crickets_35 (by decide) ?_
        exact kj_2 _ ((b01_eq cJ).symm)
      · skip
        have cJ := c_3
        refine g_iconst X (v := 1) dX4_crickets_31 (by decide) ?_
        refine g_goto X 36 dX4_crickets_32 (by decide) ?_
        exact kj_2 _ ((b01_ne cJ).symm)
    refine g_iadd X dX4_crickets_36 ?_
    refine g_istore_n X [(1, .int _), (5, .int _), (0, .ref _), (2, .ref _), (3, .int _), (4, .int _)] dX4_crickets_37 rfl (by decide) rfl ?_
    refine g_iincN X i 4 [(4, .int _), (1, .int _), (5, .int _), (0, .ref _), (2, .ref _), (3, .int _)] 5 dX4_crickets_38 rfl (by decide) rfl ?_
    refine g_goto X 13 dX4_crickets_41 (by decide) ?_
    refine g_ls (ls' := [(0, .ref _), (1, .int _), (2, .ref _), (3, .int _), (4, .int _)]) [3, 1, 4, 5, 0] rfl ?_
    exact g_eqv (ihi (by omega) trivial) (rfl) (rfl) rfl rfl

set_option maxHeartbeats 1000000 in
set_option maxRecDepth 100000 in
theorem c_X4_sum_w (l : Launch) (D : va_G) (cy : Nat → ClassId) (ad : Nat → Nat) (ρ : Nat → Nat → Int32) (S T : Nat) (Ln : Nat → Nat)  : gMI l yX4_sum cX4_sum 7 (some .int) { frames := 0, cells := 0, slots := 0, locals := 0 } D cy (8 + S + T) ad (cS ad cy S T Ln) [.ref (ad 0), .ref (ad 1)] (sR S ρ) (fun r ρ1 => r = abs12 ρ 2 ∧ ρ1 = sR S ρ) 0 0 := by
  refine gMI_of (ls := [(0, .ref (ad 0)), (1, .ref (ad 1))]) RX4 rfl (by decide +kernel) (Nat.le_of_ble_eq_true rfl) rfl ?_
  intro p e s m args below meth c A X hr hlk hnm
  refine g_iconst X (v := 0) dX4_sum_0 (by decide) ?_
  refine g_istore_n X [(2, .int _), (0, .ref _), (1, .ref _)] dX4_sum_1 rfl (by decide) rfl ?_
  refine g_aload_n X dX4_sum_2 2 rfl rfl ?_
  refine g_astore_n X [(3, .ref _), (2, .int _), (0, .ref _), (1, .ref _)] dX4_sum_3 rfl (by decide) rfl ?_
  refine g_aload_n X dX4_sum_4 0 rfl rfl ?_
  refine g_alen (t0 := 0) X 1 (by omega) (gAI.ln lS_a1) rfl dX4_sum_5 ?_
  refine g_istore X [(4, .int _), (3, .ref _), (2, .int _), (0, .ref _), (1, .ref _)] dX4_sum_6 (by decide) rfl ?_
  refine g_iconst X (v := 0) dX4_sum_8 (by decide) ?_
  refine g_istore X [(5, .int _), (4, .int _), (3, .ref _), (2, .int _), (0, .ref _), (1, .ref _)] dX4_sum_9 (by decide) rfl ?_
  refine g_ls (ls' := [(0, .ref _), (1, .ref _), (2, .int _), (3, .ref _), (4, .int _), (5, .int _)]) [4, 5, 3, 2, 1, 0] rfl ?_
  refine g_loop (fun _ => True) (fun _ => sR S ρ) (fun i => [(0, .ref (ad 0)), (1, .ref (ad 1)), (2, .int (sumI (fun j => ab (ρ 2 j)) i)), (3, .ref (ad 1)), (4, .int (nI 12)), (5, .int (nI i))]) (fun _ => 0) (fun _ => 0) 12 0 trivial (by omega) rfl rfl rfl rfl (fun i h0i hi hIi ihi => ?_)
  refine g_iload X dX4_sum_11 5 rfl ?_
  refine g_iload X dX4_sum_13 4 rfl ?_
  refine g_icmp_geN X i 12 46 (by omega) (by omega) dX4_sum_15 (by decide) (fun c_1 => ?_) (fun c_1 => ?_)
  · skip
    refine g_iload_n X dX4_sum_46 2 rfl rfl ?_
    exact g_iret X hr hlk (by omega) (by omega) dX4_sum_47 (by rw [show i = 12 by omega]; exact ⟨rfl, rfl⟩)
  · skip
    refine g_aload_n X dX4_sum_18 3 rfl rfl ?_
    refine g_iload X dX4_sum_19 5 rfl ?_
    refine g_ialdN X 1 i (by omega) lS_a1 (by omega) (by decide) dX4_sum_21 ?_
    rw [rS_1]
    refine g_istore X [(6, .int _), (0, .ref _), (1, .ref _), (2, .int _), (3, .ref _), (4, .int _), (5, .int _)] dX4_sum_22 (by decide) rfl ?_
    refine g_iload_n X dX4_sum_24 3 rfl rfl ?_
    refine g_join 38 (ab (ρ 2 i)) (fun kj_2 => ?_) ?_
    · skip
      refine g_iload X dX4_sum_25 0 rfl ?_
      refine g_if_ge X 36 dX4_sum_27 (by decide) (fun c_3 => ?_) (fun c_3 => ?_)
      · skip
        have cJ := c_3
        refine g_iload X dX4_sum_36 0 rfl ?_
        exact kj_2 _ ((ab_ge cJ).symm)
      · skip
        have cJ := c_3
        refine g_iload X dX4_sum_30 0 rfl ?_
        refine g_ineg X dX4_sum_32 ?_
        refine g_goto X 38 dX4_sum_33 (by decide) ?_
        exact kj_2 _ ((ab_lt cJ).symm)
    refine g_iadd X dX4_sum_38 ?_
    refine g_istore_n X [(2, .int _), (6, .int _), (0, .ref _), (1, .ref _), (3, .ref _), (4, .int _), (5, .int _)] dX4_sum_39 rfl (by decide) rfl ?_
    refine g_iincN X i 5 [(5, .int _), (2, .int _), (6, .int _), (0, .ref _), (1, .ref _), (3, .ref _), (4, .int _)] 6 dX4_sum_40 rfl (by decide) rfl ?_
    refine g_goto X 11 dX4_sum_43 (by decide) ?_
    refine g_ls (ls' := [(0, .ref _), (1, .ref _), (2, .int _), (3, .ref _), (4, .int _), (5, .int _)]) [3, 4, 1, 5, 6, 0] rfl ?_
    exact g_eqv (ihi (by omega) trivial) (rfl) (rfl) rfl rfl

set_option maxHeartbeats 1000000 in
set_option maxRecDepth 100000 in
theorem c_X4_sum_o (l : Launch) (D : va_G) (cy : Nat → ClassId) (ad : Nat → Nat) (ρ : Nat → Nat → Int32) (S T : Nat) (Ln : Nat → Nat)  : gMI l yX4_sum cX4_sum 7 (some .int) { frames := 0, cells := 0, slots := 0, locals := 0 } D cy (8 + S + T) ad (cS ad cy S T Ln) [.ref (ad 0), .ref (ad 2)] (sR S ρ) (fun r ρ1 => r = abs12 ρ 3 ∧ ρ1 = sR S ρ) 0 0 := by
  refine gMI_of (ls := [(0, .ref (ad 0)), (1, .ref (ad 2))]) RX4 rfl (by decide +kernel) (Nat.le_of_ble_eq_true rfl) rfl ?_
  intro p e s m args below meth c A X hr hlk hnm
  refine g_iconst X (v := 0) dX4_sum_0 (by decide) ?_
  refine g_istore_n X [(2, .int _), (0, .ref _), (1, .ref _)] dX4_sum_1 rfl (by decide) rfl ?_
  refine g_aload_n X dX4_sum_2 2 rfl rfl ?_
  refine g_astore_n X [(3, .ref _), (2, .int _), (0, .ref _), (1, .ref _)] dX4_sum_3 rfl (by decide) rfl ?_
  refine g_aload_n X dX4_sum_4 0 rfl rfl ?_
  refine g_alen (t0 := 0) X 2 (by omega) (gAI.ln lS_a2) rfl dX4_sum_5 ?_
  refine g_istore X [(4, .int _), (3, .ref _), (2, .int _), (0, .ref _), (1, .ref _)] dX4_sum_6 (by decide) rfl ?_
  refine g_iconst X (v := 0) dX4_sum_8 (by decide) ?_
  refine g_istore X [(5, .int _), (4, .int _), (3, .ref _), (2, .int _), (0, .ref _), (1, .ref _)] dX4_sum_9 (by decide) rfl ?_
  refine g_ls (ls' := [(0, .ref _), (1, .ref _), (2, .int _), (3, .ref _), (4, .int _), (5, .int _)]) [4, 5, 3, 2, 1, 0] rfl ?_
  refine g_loop (fun _ => True) (fun _ => sR S ρ) (fun i => [(0, .ref (ad 0)), (1, .ref (ad 2)), (2, .int (sumI (fun j => ab (ρ 3 j)) i)), (3, .ref (ad 2)), (4, .int (nI 12)), (5, .int (nI i))]) (fun _ => 0) (fun _ => 0) 12 0 trivial (by omega) rfl rfl rfl rfl (fun i h0i hi hIi ihi => ?_)
  refine g_iload X dX4_sum_11 5 rfl ?_
  refine g_iload X dX4_sum_13 4 rfl ?_
  refine g_icmp_geN X i 12 46 (by omega) (by omega) dX4_sum_15 (by decide) (fun c_1 => ?_) (fun c_1 => ?_)
  · skip
    refine g_iload_n X dX4_sum_46 2 rfl rfl ?_
    exact g_iret X hr hlk (by omega) (by omega) dX4_sum_47 (by rw [show i = 12 by omega]; exact ⟨rfl, rfl⟩)
  · skip
    refine g_aload_n X dX4_sum_18 3 rfl rfl ?_
    refine g_iload X dX4_sum_19 5 rfl ?_
    refine g_ialdN X 2 i (by omega) lS_a2 (by omega) (by decide) dX4_sum_21 ?_
    rw [rS_2]
    refine g_istore X [(6, .int _), (0, .ref _), (1, .ref _), (2, .int _), (3, .ref _), (4, .int _), (5, .int _)] dX4_sum_22 (by decide) rfl ?_
    refine g_iload_n X dX4_sum_24 3 rfl rfl ?_
    refine g_join 38 (ab (ρ 3 i)) (fun kj_2 => ?_) ?_
    · skip
      refine g_iload X dX4_sum_25 0 rfl ?_
      refine g_if_ge X 36 dX4_sum_27 (by decide) (fun c_3 => ?_) (fun c_3 => ?_)
      · skip
        have cJ := c_3
        refine g_iload X dX4_sum_36 0 rfl ?_
        exact kj_2 _ ((ab_ge cJ).symm)
      · skip
        have cJ := c_3
        refine g_iload X dX4_sum_30 0 rfl ?_
        refine g_ineg X dX4_sum_32 ?_
        refine g_goto X 38 dX4_sum_33 (by decide) ?_
        exact kj_2 _ ((ab_lt cJ).symm)
    refine g_iadd X dX4_sum_38 ?_
    refine g_istore_n X [(2, .int _), (6, .int _), (0, .ref _), (1, .ref _), (3, .ref _), (4, .int _), (5, .int _)] dX4_sum_39 rfl (by decide) rfl ?_
    refine g_iincN X i 5 [(5, .int _), (2, .int _), (6, .int _), (0, .ref _), (1, .ref _), (3, .ref _), (4, .int _)] 6 dX4_sum_40 rfl (by decide) rfl ?_
    refine g_goto X 11 dX4_sum_43 (by decide) ?_
    refine g_ls (ls' := [(0, .ref _), (1, .ref _), (2, .int _), (3, .ref _), (4, .int _), (5, .int _)]) [3, 4, 1, 5, 6, 0] rfl ?_
    exact g_eqv (ihi (by omega) trivial) (rfl) (rfl) rfl rfl
end
