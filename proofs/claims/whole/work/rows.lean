section
-- ===== PART A: goes FIRST, ahead of the names: the tables' words, and 'selects' of the private methods out of them =====
/-- a private method of a class that the tables say can be made, by its rows of tables_1 -/
def lw_okq (q : MethodName × Nat) : Prop := (q.1.cls ≠ "java/lang/invoke/MethodHandle" ∧ q.1.cls ≠ "java/lang/invoke/VarHandle") ∧ Cond.instantiable q.1.cls q.2 ∈ tables_1 ∧ Cond.privateMethod q.1 ∈ tables_1 ∧ Cond.instanceMethod q.1 ∈ tables_1
theorem lw_p0 : lw_okq (⟨"StreetOrgans", "countNow", "(I)I"⟩, 10) := ⟨⟨by decide +kernel, by decide +kernel⟩, List.mem_of_getElem? (i := 17) (by decide +kernel), List.mem_of_getElem? (i := 161) (by decide +kernel), List.mem_of_getElem? (i := 162) (by decide +kernel)⟩
theorem lw_p1 : lw_okq (⟨"StreetOrgans", "mixTune", "(JLStreetOrgans$Tune;)J"⟩, 10) := ⟨⟨by decide +kernel, by decide +kernel⟩, List.mem_of_getElem? (i := 17) (by decide +kernel), List.mem_of_getElem? (i := 193) (by decide +kernel), List.mem_of_getElem? (i := 194) (by decide +kernel)⟩
theorem lw_p2 : lw_okq (⟨"StreetOrgans", "mixStreet", "(JI)J"⟩, 10) := ⟨⟨by decide +kernel, by decide +kernel⟩, List.mem_of_getElem? (i := 17) (by decide +kernel), List.mem_of_getElem? (i := 197) (by decide +kernel), List.mem_of_getElem? (i := 198) (by decide +kernel)⟩
theorem lw_p3 : lw_okq (⟨"StreetOrgans", "payNow", "(II)I"⟩, 10) := ⟨⟨by decide +kernel, by decide +kernel⟩, List.mem_of_getElem? (i := 17) (by decide +kernel), List.mem_of_getElem? (i := 213) (by decide +kernel), List.mem_of_getElem? (i := 214) (by decide +kernel)⟩
theorem lw_p4 : lw_okq (⟨"java/lang/Throwable", "fillInStackTrace", "(I)Ljava/lang/Throwable;"⟩, 6) := ⟨⟨by decide +kernel, by decide +kernel⟩, List.mem_of_getElem? (i := 267) (by decide +kernel), List.mem_of_getElem? (i := 265) (by decide +kernel), List.mem_of_getElem? (i := 266) (by decide +kernel)⟩
theorem lw_p5 : lw_okq (⟨"StreetOrgans", "checkTune", "(I)V"⟩, 10) := ⟨⟨by decide +kernel, by decide +kernel⟩, List.mem_of_getElem? (i := 17) (by decide +kernel), List.mem_of_getElem? (i := 305) (by decide +kernel), List.mem_of_getElem? (i := 306) (by decide +kernel)⟩
theorem lw_p6 : lw_okq (⟨"StreetOrgans", "checkStreet", "(I)V"⟩, 10) := ⟨⟨by decide +kernel, by decide +kernel⟩, List.mem_of_getElem? (i := 17) (by decide +kernel), List.mem_of_getElem? (i := 378) (by decide +kernel), List.mem_of_getElem? (i := 379) (by decide +kernel)⟩
theorem lw_p7 : lw_okq (⟨"StreetOrgans", "payFine", "()I"⟩, 10) := ⟨⟨by decide +kernel, by decide +kernel⟩, List.mem_of_getElem? (i := 17) (by decide +kernel), List.mem_of_getElem? (i := 401) (by decide +kernel), List.mem_of_getElem? (i := 402) (by decide +kernel)⟩
theorem lw_p8 : lw_okq (⟨"StreetOrgans", "passNights", "(LStreetOrgans$Pipes;I)I"⟩, 10) := ⟨⟨by decide +kernel, by decide +kernel⟩, List.mem_of_getElem? (i := 17) (by decide +kernel), List.mem_of_getElem? (i := 478) (by decide +kernel), List.mem_of_getElem? (i := 479) (by decide +kernel)⟩
theorem lw_p9 : lw_okq (⟨"StreetOrgansModel", "no", "(I)I"⟩, 14) := ⟨⟨by decide +kernel, by decide +kernel⟩, List.mem_of_getElem? (i := 532) (by decide +kernel), List.mem_of_getElem? (i := 616) (by decide +kernel), List.mem_of_getElem? (i := 617) (by decide +kernel)⟩
theorem lw_p10 : lw_okq (⟨"StreetOrgansModel", "isTune", "(I)Z"⟩, 14) := ⟨⟨by decide +kernel, by decide +kernel⟩, List.mem_of_getElem? (i := 532) (by decide +kernel), List.mem_of_getElem? (i := 624) (by decide +kernel), List.mem_of_getElem? (i := 625) (by decide +kernel)⟩
theorem lw_p11 : lw_okq (⟨"StreetOrgansModel", "isStreet", "(I)Z"⟩, 14) := ⟨⟨by decide +kernel, by decide +kernel⟩, List.mem_of_getElem? (i := 532) (by decide +kernel), List.mem_of_getElem? (i := 649) (by decide +kernel), List.mem_of_getElem? (i := 650) (by decide +kernel)⟩
theorem lw_p12 : lw_okq (⟨"StreetOrgansModel", "isPermitted", "(I)Z"⟩, 14) := ⟨⟨by decide +kernel, by decide +kernel⟩, List.mem_of_getElem? (i := 532) (by decide +kernel), List.mem_of_getElem? (i := 661) (by decide +kernel), List.mem_of_getElem? (i := 662) (by decide +kernel)⟩
theorem lw_p13 : lw_okq (⟨"StreetOrgansModel", "paysNow", "(II)I"⟩, 14) := ⟨⟨by decide +kernel, by decide +kernel⟩, List.mem_of_getElem? (i := 532) (by decide +kernel), List.mem_of_getElem? (i := 666) (by decide +kernel), List.mem_of_getElem? (i := 667) (by decide +kernel)⟩
theorem lw_p14 : lw_okq (⟨"StreetOrgansModel", "soundOf", "(ILStreetOrgansModel$Pipes;I)I"⟩, 14) := ⟨⟨by decide +kernel, by decide +kernel⟩, List.mem_of_getElem? (i := 532) (by decide +kernel), List.mem_of_getElem? (i := 670) (by decide +kernel), List.mem_of_getElem? (i := 671) (by decide +kernel)⟩
theorem lw_p15 : lw_okq (⟨"StreetOrgansModel", "sing", "(ILStreetOrgansModel$Pipes;)V"⟩, 14) := ⟨⟨by decide +kernel, by decide +kernel⟩, List.mem_of_getElem? (i := 532) (by decide +kernel), List.mem_of_getElem? (i := 680) (by decide +kernel), List.mem_of_getElem? (i := 681) (by decide +kernel)⟩
def lw_privs_1 : List (MethodName × Nat) := [(⟨"StreetOrgans", "countNow", "(I)I"⟩, 10), (⟨"StreetOrgans", "mixTune", "(JLStreetOrgans$Tune;)J"⟩, 10), (⟨"StreetOrgans", "mixStreet", "(JI)J"⟩, 10), (⟨"StreetOrgans", "payNow", "(II)I"⟩, 10), (⟨"java/lang/Throwable", "fillInStackTrace", "(I)Ljava/lang/Throwable;"⟩, 6), (⟨"StreetOrgans", "checkTune", "(I)V"⟩, 10), (⟨"StreetOrgans", "checkStreet", "(I)V"⟩, 10), (⟨"StreetOrgans", "payFine", "()I"⟩, 10), (⟨"StreetOrgans", "passNights", "(LStreetOrgans$Pipes;I)I"⟩, 10), (⟨"StreetOrgansModel", "no", "(I)I"⟩, 14), (⟨"StreetOrgansModel", "isTune", "(I)Z"⟩, 14), (⟨"StreetOrgansModel", "isStreet", "(I)Z"⟩, 14), (⟨"StreetOrgansModel", "isPermitted", "(I)Z"⟩, 14), (⟨"StreetOrgansModel", "paysNow", "(II)I"⟩, 14), (⟨"StreetOrgansModel", "soundOf", "(ILStreetOrgansModel$Pipes;I)I"⟩, 14), (⟨"StreetOrgansModel", "sing", "(ILStreetOrgansModel$Pipes;)V"⟩, 14)]
theorem lw_r1 : ∀ q ∈ lw_privs_1, lw_okq q := List.forall_mem_cons.mpr ⟨lw_p0, List.forall_mem_cons.mpr ⟨lw_p1, List.forall_mem_cons.mpr ⟨lw_p2, List.forall_mem_cons.mpr ⟨lw_p3, List.forall_mem_cons.mpr ⟨lw_p4, List.forall_mem_cons.mpr ⟨lw_p5, List.forall_mem_cons.mpr ⟨lw_p6, List.forall_mem_cons.mpr ⟨lw_p7, List.forall_mem_cons.mpr ⟨lw_p8, List.forall_mem_cons.mpr ⟨lw_p9, List.forall_mem_cons.mpr ⟨lw_p10, List.forall_mem_cons.mpr ⟨lw_p11, List.forall_mem_cons.mpr ⟨lw_p12, List.forall_mem_cons.mpr ⟨lw_p13, List.forall_mem_cons.mpr ⟨lw_p14, List.forall_mem_cons.mpr ⟨lw_p15, fun _ h => absurd h List.not_mem_nil⟩⟩⟩⟩⟩⟩⟩⟩⟩⟩⟩⟩⟩⟩⟩⟩
theorem lw_p16 : lw_okq (⟨"StreetOrgansModel", "pipeTold", "(II)I"⟩, 14) := ⟨⟨by decide +kernel, by decide +kernel⟩, List.mem_of_getElem? (i := 532) (by decide +kernel), List.mem_of_getElem? (i := 712) (by decide +kernel), List.mem_of_getElem? (i := 713) (by decide +kernel)⟩
theorem lw_p17 : lw_okq (⟨"StreetOrgansModel", "streetTold", "(II)I"⟩, 14) := ⟨⟨by decide +kernel, by decide +kernel⟩, List.mem_of_getElem? (i := 532) (by decide +kernel), List.mem_of_getElem? (i := 724) (by decide +kernel), List.mem_of_getElem? (i := 725) (by decide +kernel)⟩
theorem lw_p18 : lw_okq (⟨"StreetOrgansModel", "counted", "(I)I"⟩, 14) := ⟨⟨by decide +kernel, by decide +kernel⟩, List.mem_of_getElem? (i := 532) (by decide +kernel), List.mem_of_getElem? (i := 732) (by decide +kernel), List.mem_of_getElem? (i := 733) (by decide +kernel)⟩
def lw_privs_2 : List (MethodName × Nat) := [(⟨"StreetOrgansModel", "pipeTold", "(II)I"⟩, 14), (⟨"StreetOrgansModel", "streetTold", "(II)I"⟩, 14), (⟨"StreetOrgansModel", "counted", "(I)I"⟩, 14)]
theorem lw_r2 : ∀ q ∈ lw_privs_2, lw_okq q := List.forall_mem_cons.mpr ⟨lw_p16, List.forall_mem_cons.mpr ⟨lw_p17, List.forall_mem_cons.mpr ⟨lw_p18, fun _ h => absurd h List.not_mem_nil⟩⟩⟩
def lw_privs : List (MethodName × Nat) := lw_privs_1 ++ (lw_privs_2)
def lw_tbl : List Cond := k2_sels lw_privs ++ tables_1
theorem lw_privs_ok : ∀ q ∈ lw_privs, lw_okq q := by
  show ∀ q ∈ lw_privs_1 ++ (lw_privs_2), lw_okq q
  exact List.forall_mem_append.mpr ⟨lw_r1, lw_r2⟩
/-- the streams that the claim lets the run draw from -/
abbrev lw_cs : List Choice := [Jvm.Choice.named "NaN.bits"]
theorem lw_bits : nanBits ∈ lw_cs := by first | decide | exact List.mem_cons_self | simp [lw_cs, nanBits]
-- ===== end of PART A; then your names; then what follows =====
end
section
/-! ===== BEGIN words of one list among another's, by their places ===== -/
theorem goodIn_r {big : List Cond} (ws : List Cond) (ps : List Nat) (hp : ws = ps.filterMap (fun i => big[i]?)) (h : ws.all goodWord = true) : GoodIn big ws := by
  intro w hw
  have h1 := List.all_eq_true.mp h w hw
  rw [hp] at hw
  obtain ⟨i, -, hi⟩ := List.mem_filterMap.mp hw
  have hm : w ∈ big := by first | exact List.mem_of_getElem? hi | exact List.getElem?_mem hi
  exact ⟨hm, good_of_word h1⟩
theorem goodIn_app {big a b : List Cond} (ha : GoodIn big a) (hb : GoodIn big b) : GoodIn big (a ++ b) := fun w h => (List.mem_append.mp h).elim (ha w) (hb w)
theorem goodIn_ca {big a b : List Cond} {c : Cond} (ha : GoodIn big (c :: a)) (hb : GoodIn big b) : GoodIn big (c :: (a ++ b)) := fun w h => (List.mem_cons.mp h).elim (fun e => ha w (List.mem_cons.mpr (Or.inl e))) (fun h => (List.mem_append.mp h).elim (fun h => ha w (List.mem_cons.mpr (Or.inr h))) (hb w))
theorem goodIn_sub {big ws : List Cond} (hm : ∀ w ∈ ws, w ∈ big) (h : ws.all goodWord = true) : GoodIn big ws := fun w hw => ⟨hm w hw, good_of_word (List.all_eq_true.mp h w hw)⟩
/-! ===== END ===== -/

/-! ===== BEGIN exceptions that leave a method, and their catching by the caller (launches without stack traces) ===== -/
section VXA
/-! The laws vx_back, vx_callV, vx_callS, vx_callSW, vx_throw0, vx_throwS follow proofs of the library, with one case more: JvmDerived/Free/Laws.lean (Back.of_free), Shelf42/LK1.lean (callV, callS), Shelf/KitTraced.lean (throwNew0V, throwNewS). -/
/-- where a method has thrown q: the class by its name, the cell, what was written, the world -/
def vx_T (XC : String → State → State → Prop) (st : State) (q : Addr) (t : State) (mc ms : Nat) (free : Addr → Prop) : Prop :=
  ∃ (E : String) (ce : Cell) (L : List Loc), XC E st t ∧ t.heap[q]? = some ce ∧ ce.vm = .none ∧ st.vm.findClass E = some ce.cls ∧ st.WarmedH t.vm ∧ st.sameButNew ({ t with vm := st.vm } : State) L mc ms ∧ ∀ z ∈ L, free z.base
def vx_Q (Qc : Array Value → State → Outcome → State → Prop) (XC : String → State → State → Prop) (mc ms : Nat) (free : Addr → Prop) : Array Value → State → Outcome → State → Prop := fun a st o t =>
  (Qc a st o t ∧ ∃ L, FrameEnd st o t L mc ms ∧ ∀ q ∈ L, free q.base) ∨ ∃ q, o = .threw q ∧ vx_T XC st q t mc ms free
/-- a callee that returns or throws -/
def vx_Met (l : Launch) (y : MethodName) (ws : List Cond) (rm : Room) (Pc : Array Value → State → Prop) (Qc : Array Value → State → Outcome → State → Prop) (XC : String → State → State → Prop) (mc ms : Nat) (free : Addr → Prop) : Prop :=
  MetFree l y (headSpec ws rm) Pc (fun _ _ _ _ _ => True) (vx_Q Qc XC mc ms free)
def vx_Post (XC : String → State → State → Prop) (mc ms : Nat) (free : Addr → Prop) : Pt → Array Value → Addr → Pt → Prop := fun A a q B =>
  ∃ (g : JFrame) (mk : MethodId) (t : State) (L : List Loc) (E : String) (ce : Cell), B.U.heap = t.heap ∧ B.U.vm = t.vm ∧ XC E (A.U.calling g mk a) t ∧ t.heap[q]? = some ce ∧ ce.vm = .none ∧ A.U.vm.findClass E = some ce.cls ∧ B.locs = A.locs ++ L ∧ (∀ z ∈ L, free z.base) ∧ B.cells = A.cells + mc ∧ B.slots = A.slots + ms
def vx_Back (l : Launch) (R : Room) (p : Program) (e : Env) (below : List Frame) (s : State) (sargs : Array Value) (y : MethodName) (len W9 : Nat)
    (Pre : Pt → Array Value → Prop) (Post : Pt → Array Value → Option Value → Pt → Prop) (PostX : Pt → Array Value → Addr → Pt → Prop) : Prop :=
  ∀ (m : MethodId) (meth : Method) (c : Code) (A : Pt) (g : JFrame) (ig : Instr) (mk : MethodId) (a : Array Value),
    Stand p l e R s m sargs below meth c A.U A.locs A.cells A.slots → g.method = m → g.locals.size = c.maxLocals → decode c.code g.pc = .ok (ig, len) →
    2 * g.monitorRoom + (g.stack.map fun v => v.category).sum ≤ W9 → A.U.methodNamed? y = some mk → Pre A a →
    (∃ (v : Option Value) (B : Pt), Stand p l e R s m sargs below meth c B.U B.locs B.cells B.slots ∧ Post A a v B ∧
      Steps p.tables e below (doInvoke e (A.U.setTop g) [] mk a).1 (B.U.setTop { g with pc := g.pc + len, stack := v.toList ++ g.stack })) ∨
    (∃ (q : Addr) (B : Pt), Stand p l e R s m sargs below meth c B.U B.locs B.cells B.slots ∧ PostX A a q B ∧
      Steps p.tables e below (doInvoke e (A.U.setTop g) [] mk a).1 ((B.U.setTop g).pushFrame (.throwing q)))
section Payer
variable {l : Launch} {R : Room} {p : Program} {e : Env} {below : List Frame} {s : State} {sargs : Array Value} {y : MethodName} {len W9 : Nat}
theorem vx_back {ws : List Cond} {rm : Room} {Pc : Array Value → State → Prop} {Qc : Array Value → State → Outcome → State → Prop} {XC : String → State → State → Prop} {mc ms : Nat} {free : Addr → Prop} {bytes : ByteArray} {maxL : Nat} {ret : Option FieldType}
    (hM : vx_Met l y ws rm Pc Qc XC mc ms free) (hblind : FrameBlind Pc) (hrc : rm.cells = mc) (hrs : rm.slots = ms)
    (hframes : rm.frames + 1 ≤ R.frames) (hlocals : W9 + (maxL + 11) + rm.locals ≤ R.locals)
    (hws : ∀ w ∈ ws, ∀ a' U, s.WarmedH U.vm → w.before a' U = true) (hcode : Cond.code y bytes maxL ret ∈ ws) (hinit : ∀ a' U, s.WarmedH U.vm → (Cond.initialized y.cls).before a' U = true) :
    vx_Back l R p e below s sargs y len W9 (PreOf R mc ms Pc) (PostOf Qc mc ms free) (vx_Post XC mc ms free) := by
  intro m meth c A g ig mk a X hg hsize hdg hW hn hp
  have h1 : (headSpec ws rm).pre.before a A.U = true := atoms_intro fun w hw => hws w hw _ _ X.warmed
  have h2 : (Cond.code y bytes maxL ret).before a A.U = true := hws _ hcode _ _ X.warmed
  have h3 : (Cond.initialized y.cls).before a A.U = true := hinit _ _ X.warmed
  have h4 : A.cells + (headSpec ws rm).room.cells ≤ R.cells := by rw [show (headSpec ws rm).room.cells = mc from hrc]; exact hp.1
  have h5 : A.slots + (headSpec ws rm).room.slots ≤ R.slots := by rw [show (headSpec ws rm).room.slots = ms from hrs]; exact hp.2.1
  have hPc : Pc a (A.U.calling g mk a) := hblind _ _ _ _ hp.2.2
  obtain ⟨U, Ls, c0, s0⟩ := A
  dsimp only [Pt.U, Pt.locs, Pt.cells, Pt.slots] at h1 h2 h3 h4 h5 X hn hPc ⊢
  obtain ⟨methY, cY, hmY, hcY, -, hlY, -, -, -, -⟩ := Cond.code_spec hn h2
  obtain ⟨kY, hkY, -⟩ := className_of_methodNamed hn
  have hinitY : kY.init = .initialized := Cond.initialized_spec (findClass_of_methodNamed hn) hkY h3
  have h : At U g.method c below := by rw [hg]; exact X.here
  have hlocals9 : W9 + (maxL + 11) + (headSpec ws rm).room.locals ≤ R.locals := hlocals
  have happ : (headSpec ws rm).appliesLoose y e.platform (U.calling g mk a) = true :=
    Spec.appliesLoose_calling (g := g) h hdg hn hkY hinitY
      (X.room_calling (g := g) (R' := (headSpec ws rm).room) hsize hmY hcY hframes (by rw [hlY]; omega) h4 h5) h1
  obtain ⟨mid, hmid⟩ := h.above
  have hfr : (U.setTop g).frames = (.java g :: mid) ++ below := by rw [State.frames_setTop' g h.top, hmid]; rfl
  obtain ⟨o, s₂, hsteps, -, hend, hq⟩ := Steps.callFree hM p X.admits X.cas X.clock (acts := []) hfr happ hPc trivial
  have hq' : vx_Q Qc XC mc ms free a (U.calling g mk a) o s₂ := hq
  rw [State.frames_setTop' g h.top] at hend
  obtain ⟨g₀, hg0⟩ := Option.isSome_iff_exists.mp h.top
  obtain ⟨r, hr⟩ := State.topJava?_eq_some.mp hg0
  have hr' : (({ U with heap := s₂.heap, slotsUsed := s₂.slotsUsed } : State).setVm s₂.vm).frames = .java g₀ :: r := hr
  rcases hq' with ⟨hqc, L, hfe, hL⟩ | ⟨q, rfl, E, ce, L, hx, hce, hcv, hcl, hW₂, hsm, hL⟩
  · obtain ⟨⟨v, rfl⟩, hW₂, e2, q2, q3, q4, q5, q6⟩ := id hfe
    have e3 : s₂ = ({ (U.calling g mk a).setFrames s₂.frames with heap := s₂.heap, slotsUsed := s₂.slotsUsed } : State).setVm s₂.vm := by
      have : s₂ = ({ s₂ with vm := (U.calling g mk a).vm } : State).setVm s₂.vm := rfl
      rw [e2] at this
      exact this
    obtain ⟨c₂, i₂, len₂, hc₂, hd₂, hf₂⟩ := hend
    have hW' : U.WarmedH s₂.vm := hW₂
    have hcc : c₂ = c := by
      have h1 : s₂.code? g.method = U.code? g.method := by
        rw [State.code?_eq, State.code?_eq, hW'.alike.method?]
      exact Option.some.inj (hc₂.symm.trans (h1.trans h.code))
    subst hcc
    have hlen : len₂ = len := by rw [hdg] at hd₂; cases hd₂; rfl
    subst hlen
    have hs₂ : s₂ = (({ U with heap := s₂.heap, slotsUsed := s₂.slotsUsed } : State).setVm s₂.vm).setTop { g with pc := g.pc + len₂, stack := v.toList ++ g.stack } := by
      refine e3.trans ?_
      rw [hf₂, State.calling_eq h.top, State.setFrames_setFrames, State.setTop_of_frames _ hr', hr]
      rfl
    have hsame : U.sameButNew ({ U with heap := s₂.heap, slotsUsed := s₂.slotsUsed } : State) L mc ms := by
      refine ⟨?_, q2, q3, q4, q5, q6⟩
      obtain ⟨t, ht, -⟩ := State.frames_cons hr
      show ({ U with heap := s₂.heap, slotsUsed := s₂.slotsUsed } : State) = { U.setFrames U.frames with heap := s₂.heap, slotsUsed := s₂.slotsUsed }
      rw [State.setFrames_self ht]
    subst hg
    refine Or.inl ⟨v, ⟨(({ U with heap := s₂.heap, slotsUsed := s₂.slotsUsed } : State).setVm s₂.vm), Ls ++ L, c0 + mc, s0 + ms⟩,
      ⟨X.admits, X.cas, X.clock, X.frames, X.room, X.hears, X.method, X.code, (X.here.setHeapUsed s₂.heap s₂.slotsUsed).setVm hW'.alike, X.tail, State.WarmedH.trans X.warmed hW', X.limits, X.bytes, X.same.trans (hsame.setVm s.vm)⟩,
      ⟨g, mk, s₂, L, rfl, rfl, hqc, rfl, hL, rfl, rfl⟩, ?_⟩
    show Steps p.tables e below _ ((({ U with heap := s₂.heap, slotsUsed := s₂.slotsUsed } : State).setVm s₂.vm).setTop { g with pc := g.pc + len₂, stack := v.toList ++ g.stack })
    rw [← hs₂]
    exact hsteps
  · obtain ⟨e2, q2, q3, q4, q5, q6⟩ := id hsm
    have e3 : s₂ = ({ (U.calling g mk a).setFrames s₂.frames with heap := s₂.heap, slotsUsed := s₂.slotsUsed } : State).setVm s₂.vm := by
      have : s₂ = ({ s₂ with vm := (U.calling g mk a).vm } : State).setVm s₂.vm := rfl
      rw [e2] at this
      exact this
    have hf₂ : s₂.frames = .throwing q :: .java g :: U.frames.tail := hend
    have hW' : U.WarmedH s₂.vm := hW₂
    have hs₂ : s₂ = ((({ U with heap := s₂.heap, slotsUsed := s₂.slotsUsed } : State).setVm s₂.vm).setTop g).pushFrame (.throwing q) := by
      refine e3.trans ?_
      rw [hf₂, State.calling_eq h.top, State.setFrames_setFrames, State.pushFrame, State.frames_setTop _ hr', State.setTop_of_frames _ hr', State.setFrames_setFrames, hr]
      rfl
    have hsame : U.sameButNew ({ U with heap := s₂.heap, slotsUsed := s₂.slotsUsed } : State) L mc ms := by
      refine ⟨?_, q2, q3, q4, q5, q6⟩
      obtain ⟨t, ht, -⟩ := State.frames_cons hr
      show ({ U with heap := s₂.heap, slotsUsed := s₂.slotsUsed } : State) = { U.setFrames U.frames with heap := s₂.heap, slotsUsed := s₂.slotsUsed }
      rw [State.setFrames_self ht]
    subst hg
    refine Or.inr ⟨q, ⟨(({ U with heap := s₂.heap, slotsUsed := s₂.slotsUsed } : State).setVm s₂.vm), Ls ++ L, c0 + mc, s0 + ms⟩,
      ⟨X.admits, X.cas, X.clock, X.frames, X.room, X.hears, X.method, X.code, (X.here.setHeapUsed s₂.heap s₂.slotsUsed).setVm hW'.alike, X.tail, State.WarmedH.trans X.warmed hW', X.limits, X.bytes, X.same.trans (hsame.setVm s.vm)⟩,
      ⟨g, mk, s₂, L, E, ce, rfl, rfl, hx, hce, hcv, hcl, rfl, hL, rfl, rfl⟩, ?_⟩
    show Steps p.tables e below _ (((({ U with heap := s₂.heap, slotsUsed := s₂.slotsUsed } : State).setVm s₂.vm).setTop g).pushFrame (.throwing q))
    rw [← hs₂]
    exact hsteps
end Payer
section Calls
variable {p : Program} {l : Launch} {e : Env} {R : Room} {s : State} {m : MethodId} {args : Array Value} {below : List Frame} {meth : Method} {c : Code} {T : State} {locs : List Loc} {cells slots : Nat}
theorem vx_callV (X : Stand p l e R s m args below meth c T locs cells slots) (hexec : p.tables.exec = Jvm.exec) {own C : String} {index : Nat} {y : MethodName} {bytes : ByteArray} {maxL : Nat} {ret : Option FieldType}
    (hown : s.vm.findClass own = some m.cls) (hlink : (Cond.methodLink own index y).before args s = true) (hinst : (Cond.instanceMethod y).before args s = true) (hsel : (Cond.selects C y y).before args s = true)
    (hcode : (Cond.code y bytes maxL ret).before args s = true) (hy : y.cls ≠ "java/lang/invoke/MethodHandle" ∧ y.cls ≠ "java/lang/invoke/VarHandle")
    {W9 : Nat} {Pre : Pt → Array Value → Prop} {Post : Pt → Array Value → Option Value → Pt → Prop} {PostX : Pt → Array Value → Addr → Pt → Prop} (hK : vx_Back l R p e below s args y 3 W9 Pre Post PostX)
    {b : Addr} {cellB : Cell} (hcell : T.heap[b]? = some cellB) (hobj : cellB.vm.isStatics = false) (hcls : s.vm.findClass C = some cellB.cls)
    {g : JFrame} (hg : g.method = m) (hsize : g.locals.size = c.maxLocals) {argsL rest : List Value} (hlen : ∀ sig, parseMethodDescriptor y.desc = some sig → argsL.length = sig.parameters.length)
    (hstack : g.stack = argsL.reverse ++ .ref b :: rest) (hW : 2 * g.monitorRoom + (rest.map fun v => v.category).sum ≤ W9) (hdg : decode c.code g.pc = .ok (.invokevirtual index, 3))
    (hpre : ∀ vm₁, s.WarmedH vm₁ → Pre ⟨T.setVm vm₁, locs, cells, slots⟩ (Value.ref b :: argsL).toArray) :
    (∃ (v : Option Value) (vm₁ : Vm) (B : Pt), s.WarmedH vm₁ ∧ Stand p l e R s m args below meth c B.U B.locs B.cells B.slots ∧ Post ⟨T.setVm vm₁, locs, cells, slots⟩ (Value.ref b :: argsL).toArray v B ∧
      ∀ target, Steps p.tables e below (B.U.setTop { g with pc := g.pc + 3, stack := v.toList ++ rest }) target → Steps p.tables e below (T.setTop g) target) ∨
    (∃ (q : Addr) (vm₁ : Vm) (B : Pt), s.WarmedH vm₁ ∧ Stand p l e R s m args below meth c B.U B.locs B.cells B.slots ∧ PostX ⟨T.setVm vm₁, locs, cells, slots⟩ (Value.ref b :: argsL).toArray q B ∧
      Steps p.tables e below (T.setTop g) ((B.U.setTop { g with stack := rest }).pushFrame (.throwing q))) := by
  obtain ⟨mk, methM, hnamed, hmethM, hstM, habM⟩ := Cond.instanceMethod_spec hinst
  obtain ⟨methM', cM, hmethM', -, -, -, -, -, -, hsigM⟩ := Cond.code_spec hnamed hcode
  cases hmethM.symm.trans hmethM'
  obtain ⟨c2, r2, m2, q1, q2, q3, q4, kP, hkP, hkPi⟩ := Cond.selects_spec hsel
  cases hcls.symm.trans q1
  cases (State.methodFound?_of_named hnamed hy).symm.trans q2
  cases hnamed.symm.trans q3
  have hselP : selectMethod e.platform s.vm cellB.cls mk = .method mk := by rw [Launch.admits_selectMethod X.admits]; exact q4
  obtain ⟨vm₁, X₁, hstep₁⟩ := X.invokevirtual hexec hown hlink hnamed hmethM hstM hkP hkPi hy (a := b) (cell := cellB) hcell
    (fun z h => by rw [h] at hobj; cases hobj) hselP hmethM habM hkP hkPi (g := g) hg (argsL := argsL) (rest := rest) (hlen _ hsigM) hstack hdg
  rcases hK m meth c ⟨T.setVm vm₁, locs, cells, slots⟩ { g with stack := rest } (.invokevirtual index) mk (Value.ref b :: argsL).toArray X₁ hg hsize hdg hW (X₁.named hnamed) (hpre vm₁ X₁.warmed) with ⟨v, B, X', hpost, hsteps⟩ | ⟨q, B, X', hpost, hsteps⟩
  · exact Or.inl ⟨v, vm₁, B, X₁.warmed, X', hpost, fun target h => hstep₁ _ fun acts => by rw [doInvoke_state]; exact hsteps.trans h⟩
  · exact Or.inr ⟨q, vm₁, B, X₁.warmed, X', hpost, hstep₁ _ fun acts => by rw [doInvoke_state]; exact hsteps⟩
theorem vx_callS (X : Stand p l e R s m args below meth c T locs cells slots) (hexec : p.tables.exec = Jvm.exec) {own : String} {index : Nat} {y : MethodName} {bytes : ByteArray} {maxL : Nat} {ret : Option FieldType}
    (hown : s.vm.findClass own = some m.cls) (hlink : (Cond.methodLink own index y).before args s = true) (hstat : (Cond.static y).before args s = true) (hinit : (Cond.initialized y.cls).before args s = true)
    (hcode : (Cond.code y bytes maxL ret).before args s = true) (hy : y.cls ≠ "java/lang/invoke/MethodHandle" ∧ y.cls ≠ "java/lang/invoke/VarHandle")
    {W9 : Nat} {Pre : Pt → Array Value → Prop} {Post : Pt → Array Value → Option Value → Pt → Prop} {PostX : Pt → Array Value → Addr → Pt → Prop} (hK : vx_Back l R p e below s args y 3 W9 Pre Post PostX)
    {g : JFrame} (hg : g.method = m) (hsize : g.locals.size = c.maxLocals) {argsL rest : List Value} (hlen : ∀ sig, parseMethodDescriptor y.desc = some sig → argsL.length = sig.parameters.length)
    (hstack : g.stack = argsL.reverse ++ rest) (hW : 2 * g.monitorRoom + (rest.map fun v => v.category).sum ≤ W9) (hdg : decode c.code g.pc = .ok (.invokestatic index, 3))
    (hpre : ∀ vm₁, s.WarmedH vm₁ → Pre ⟨T.setVm vm₁, locs, cells, slots⟩ argsL.toArray) :
    (∃ (v : Option Value) (vm₁ : Vm) (B : Pt), s.WarmedH vm₁ ∧ Stand p l e R s m args below meth c B.U B.locs B.cells B.slots ∧ Post ⟨T.setVm vm₁, locs, cells, slots⟩ argsL.toArray v B ∧
      ∀ target, Steps p.tables e below (B.U.setTop { g with pc := g.pc + 3, stack := v.toList ++ rest }) target → Steps p.tables e below (T.setTop g) target) ∨
    (∃ (q : Addr) (vm₁ : Vm) (B : Pt), s.WarmedH vm₁ ∧ Stand p l e R s m args below meth c B.U B.locs B.cells B.slots ∧ PostX ⟨T.setVm vm₁, locs, cells, slots⟩ argsL.toArray q B ∧
      Steps p.tables e below (T.setTop g) ((B.U.setTop { g with stack := rest }).pushFrame (.throwing q))) := by
  obtain ⟨mk, hnamed⟩ := Cond.code_named hcode
  obtain ⟨methM, cM, hmethM, -, -, -, -, -, -, hsigM⟩ := Cond.code_spec hnamed hcode
  have hstatic : methM.isStatic = true := Cond.static_spec hnamed hmethM hstat
  obtain ⟨kP, hkP, -⟩ := className_of_methodNamed hnamed
  have hinitP : kP.init = .initialized := Cond.initialized_spec (findClass_of_methodNamed hnamed) hkP hinit
  obtain ⟨vm₁, X₁, hstep₁⟩ := X.invokestatic hexec hown hlink hnamed hmethM hstatic hkP hinitP hy (g := g) hg (argsL := argsL) (rest := rest) (hlen _ hsigM) hstack hdg
  rcases hK m meth c ⟨T.setVm vm₁, locs, cells, slots⟩ { g with stack := rest } (.invokestatic index) mk argsL.toArray X₁ hg hsize hdg hW (X₁.named hnamed) (hpre vm₁ X₁.warmed) with ⟨v, B, X', hpost, hsteps⟩ | ⟨q, B, X', hpost, hsteps⟩
  · exact Or.inl ⟨v, vm₁, B, X₁.warmed, X', hpost, fun target h => hstep₁ _ fun acts => by rw [doInvoke_state]; exact hsteps.trans h⟩
  · exact Or.inr ⟨q, vm₁, B, X₁.warmed, X', hpost, hstep₁ _ fun acts => by rw [doInvoke_state]; exact hsteps⟩
end Calls
theorem vx_cls {s : State} {T : State} {vm₁ : Vm} {E : String} {k : ClassId} (hW : s.WarmedH vm₁) (h : (T.setVm vm₁).vm.findClass E = some k) : s.vm.findClass E = some k := by
  have h1 : vm₁.findClass E = some k := h
  rw [hW.alike.findClass] at h1
  exact h1
/-- the method's frame g, with q thrown over it -/
def vx_W (p : Program) (l : Launch) (e : Env) (R : Room) (s : State) (m : MethodId) (args : Array Value) (below : List Frame) (meth : Method) (c : Code) (H : Heap) (locs : List Loc) (cells slots : Nat) (Q : State → Prop) (g : JFrame) (q : Addr) : Prop :=
  ∀ T : State, T.heap = H → Stand p l e R s m args below meth c T locs cells slots → ∃ t, Steps p.tables e below ((T.setTop g).pushFrame (.throwing q)) t ∧ Q t
def vx_Run (p : Program) (l : Launch) (e : Env) (R : Room) (s : State) (m : MethodId) (args : Array Value) (below : List Frame) (meth : Method) (c : Code) (H : Heap) (locs : List Loc) (cells slots mc ms : Nat) (g : JFrame) (rest : List Value) (Qa : State → Outcome → State → Prop) (XC : String → State → State → Prop) (free : Addr → Prop) : Prop :=
  ∀ T : State, T.heap = H → Stand p l e R s m args below meth c T locs cells slots →
    (∃ (v : Option Value) (st₀ t T' : State) (L : List Loc), st₀.heap = H ∧ Stand p l e R s m args below meth c T' (locs ++ L) (cells + mc) (slots + ms) ∧ (∀ q ∈ L, free q.base) ∧ T'.heap = t.heap ∧ T'.vm = t.vm ∧ Qa st₀ (.returned v) t ∧
      Goes p e below T g T' { g with pc := g.pc + 3, stack := v.toList ++ rest }) ∨
    (∃ (q : Addr) (st₀ t T' : State) (L : List Loc) (E : String) (ce : Cell), st₀.heap = H ∧ Stand p l e R s m args below meth c T' (locs ++ L) (cells + mc) (slots + ms) ∧ (∀ z ∈ L, free z.base) ∧ T'.heap = t.heap ∧ T'.vm = t.vm ∧ XC E st₀ t ∧ t.heap[q]? = some ce ∧ ce.vm = .none ∧ s.vm.findClass E = some ce.cls ∧
      Steps p.tables e below (T.setTop g) ((T'.setTop { g with stack := rest }).pushFrame (.throwing q)))
def vx_X {S : Type} (px : S → Prop) (B : String → S → State → Prop) (A : Nat → Prop) : String → State → State → Prop := fun E st t => ∃ u : S, px u ∧ B E u t ∧ va_F A st t
section Runs
variable {p : Program} {l : Launch} {e : Env} {R : Room} {s : State} {m : MethodId} {args : Array Value} {below : List Frame} {meth : Method} {c : Code} {H : Heap} {locs : List Loc} {cells slots : Nat}
variable {y : MethodName} {bytes cc : ByteArray} {maxL nL mc ms n index : Nat} {ret : Option FieldType} {ws : List Cond} {rm : Room} {Pc : Array Value → State → Prop} {Qc : Array Value → State → Outcome → State → Prop} {XC : String → State → State → Prop} {free : Addr → Prop} {Ts : List Cond} {own C : String} {b : Addr} {As rest : List Value} {g : JFrame}
theorem vx_callBack (cb : CallB R s args own index y bytes maxL ret ws rm mc ms n) (hM : vx_Met l y ws rm Pc Qc XC mc ms free) (hbl : FrameBlind Pc) : vx_Back l R p e below s args y 3 8 (PreOf R mc ms Pc) (PostOf Qc mc ms free) (vx_Post XC mc ms free) := by
  obtain ⟨hrc, hrs, hfr, hlo, hws, hcw, -, hini, -⟩ := cb
  exact vx_back (bytes := bytes) (maxL := maxL) (ret := ret) hM hbl hrc hrs hfr hlo hws hcw (fun a' U hW => word_at hW (Or.inl (by first | rfl | simp [Cond.onTables, Cond.keeps, Cond.steady])) hini)
theorem vx_runV (S : CallFix p m c cc nL s args Ts own) (hM : vx_Met l y ws rm Pc Qc XC mc ms free) (cw : CallW R s args own C index y bytes maxL ret ws rm mc ms n) (hp : PreV s H C b Pc As)
    (hg : g.method = m) (hn : As.length = n) (hsize : g.locals.size = nL) (hstack : g.stack = As.reverse ++ .ref b :: rest) (hW : 2 * g.monitorRoom + (rest.map fun v => v.category).sum ≤ 8) (hdg : decode cc g.pc = .ok (.invokevirtual index, 3)) (hf : cells + mc ≤ R.cells ∧ slots + ms ≤ R.slots) :
    vx_Run p l e R s m args below meth c H locs cells slots mc ms g rest (Qc (Value.ref b :: As).toArray) XC free := by
  have hK : vx_Back l R p e below s args y 3 8 (PreOf R mc ms Pc) (PostOf Qc mc ms free) (vx_Post XC mc ms free) := vx_callBack cw.1 hM hp.1
  obtain ⟨⟨-, -, -, -, -, -, hcode, -, hy, hlen, hl⟩, hin, hse⟩ := cw
  obtain ⟨hx, hb, hml, ho, -⟩ := S
  obtain ⟨-, ⟨cellB, hcB, hoB, hclB⟩, hPc⟩ := hp
  intro T hT X
  rcases vx_callV X hx (C := C) (bytes := bytes) (maxL := maxL) (ret := ret) ho hl hin hse hcode hy hK (by rw [hT]; exact hcB) hoB hclB hg (hsize.trans hml.symm) (argsL := As) (rest := rest) (fun sig h => hn.trans (hlen sig h)) hstack hW (by rw [hb]; exact hdg)
    (fun vm₁ hW₁ => ⟨hf.1, hf.2, hPc (T.setVm vm₁) hT hW₁⟩) with ⟨v, vm₁, ⟨U', l2, c2, s2⟩, hW₁, X', ⟨g', mk, t, L, e1, e2, hq, h1, hL, h2, h3⟩, st⟩ | ⟨q, vm₁, ⟨U', l2, c2, s2⟩, hW₁, X', ⟨g', mk, t, L, E, ce, e1, e2, hq, hce, hcv, hcl, h1, hL, h2, h3⟩, st⟩
  · dsimp only [Pt.U, Pt.locs, Pt.cells, Pt.slots] at X' e1 e2 h1 h2 h3 st
    subst h1; subst h2; subst h3
    exact Or.inl ⟨v, (T.setVm vm₁).calling g' mk (Value.ref b :: As).toArray, t, U', L, hT, X', hL, e1, e2, hq, st⟩
  · dsimp only [Pt.U, Pt.locs, Pt.cells, Pt.slots] at X' e1 e2 h1 h2 h3 st hcl
    subst h1; subst h2; subst h3
    exact Or.inr ⟨q, (T.setVm vm₁).calling g' mk (Value.ref b :: As).toArray, t, U', L, E, ce, hT, X', hL, e1, e2, hq, hce, hcv, vx_cls hW₁ hcl, st⟩
theorem vx_runS (S : CallFix p m c cc nL s args Ts own) (hM : vx_Met l y ws rm Pc Qc XC mc ms free) (cw : CallB R s args own index y bytes maxL ret ws rm mc ms n ∧ (Cond.static y).before args s = true) (hp : PreS s H Pc As)
    (hg : g.method = m) (hn : As.length = n) (hsize : g.locals.size = nL) (hstack : g.stack = As.reverse ++ rest) (hW : 2 * g.monitorRoom + (rest.map fun v => v.category).sum ≤ 8) (hdg : decode cc g.pc = .ok (.invokestatic index, 3)) (hf : cells + mc ≤ R.cells ∧ slots + ms ≤ R.slots) :
    vx_Run p l e R s m args below meth c H locs cells slots mc ms g rest (Qc As.toArray) XC free := by
  have hK : vx_Back l R p e below s args y 3 8 (PreOf R mc ms Pc) (PostOf Qc mc ms free) (vx_Post XC mc ms free) := vx_callBack cw.1 hM hp.1
  obtain ⟨⟨-, -, -, -, -, -, hcode, hini, hy, hlen, hl⟩, hstt⟩ := cw
  obtain ⟨hx, hb, hml, ho, -⟩ := S
  intro T hT X
  rcases vx_callS X hx (bytes := bytes) (maxL := maxL) (ret := ret) ho hl hstt hini hcode hy hK hg (hsize.trans hml.symm) (argsL := As) (rest := rest) (fun sig h => hn.trans (hlen sig h)) hstack hW (by rw [hb]; exact hdg)
    (fun vm₁ hW₁ => ⟨hf.1, hf.2, hp.2 (T.setVm vm₁) hT hW₁⟩) with ⟨v, vm₁, ⟨U', l2, c2, s2⟩, hW₁, X', ⟨g', mk, t, L, e1, e2, hq, h1, hL, h2, h3⟩, st⟩ | ⟨q, vm₁, ⟨U', l2, c2, s2⟩, hW₁, X', ⟨g', mk, t, L, E, ce, e1, e2, hq, hce, hcv, hcl, h1, hL, h2, h3⟩, st⟩
  · dsimp only [Pt.U, Pt.locs, Pt.cells, Pt.slots] at X' e1 e2 h1 h2 h3 st
    subst h1; subst h2; subst h3
    exact Or.inl ⟨v, (T.setVm vm₁).calling g' mk As.toArray, t, U', L, hT, X', hL, e1, e2, hq, st⟩
  · dsimp only [Pt.U, Pt.locs, Pt.cells, Pt.slots] at X' e1 e2 h1 h2 h3 st hcl
    subst h1; subst h2; subst h3
    exact Or.inr ⟨q, (T.setVm vm₁).calling g' mk As.toArray, t, U', L, E, ce, hT, X', hL, e1, e2, hq, hce, hcv, vx_cls hW₁ hcl, st⟩
end Runs
section Rows
variable {p : Program} {l : Launch} {e : Env} {R : Room} {s : State} {m : MethodId} {args : Array Value} {below : List Frame} {meth : Method} {c : Code} {H : Heap} {locs : List Loc} {cells slots : Nat} {Q : State → Prop}
variable {mc ms : Nat} {free : Addr → Prop} {A0 A1 : Nat → Prop} {H0 : Heap} {a : Array Value} {pc : Nat} {ls : Array Slot} {st0 rest : List Value}
theorem vx_keep {st₀ t T' : State} {L : List Loc} (h0 : st₀.heap = H) (e1 : T'.heap = t.heap) (hS : va_S A0 H0 H locs) (hA : ∀ q, q < H.size → A1 q → A0 q) (hf : ∀ q, free q → A0 q) (hL : ∀ q ∈ L, free q.base) (hF : va_F A1 st₀ t) :
    H.size ≤ T'.heap.size ∧ (∀ q : Nat, q < H.size → ¬ A1 q → T'.heap[q]? = H[q]?) ∧ va_S A0 H0 T'.heap (locs ++ L) := by
  obtain ⟨hz, hk⟩ := hF
  rw [h0] at hz hk
  exact ⟨by rw [e1]; exact hz, fun q h1 h2 => by rw [e1]; exact hk q h1 h2,
    ⟨Nat.le_trans hS.1 (by rw [e1]; exact hz), fun q h1 h2 => by rw [e1, hk q (Nat.lt_of_lt_of_le h1 hS.1) (fun z => h2 (hA q (Nat.lt_of_lt_of_le h1 hS.1) z))]; exact hS.2.1 q h1 h2, fun q hq => by
      rcases List.mem_append.mp hq with h | h
      · exact hS.2.2 q h
      · exact hf _ (hL q h)⟩⟩
theorem vx_calli {S SX : Type} {post : Int32 → S → Prop} {px : SX → Prop} {B : S → State → Prop} {BX : String → SX → State → Prop} {AX : Nat → Prop} (hr : vx_Run p l e R s m args below meth c H locs cells slots mc ms (F0 m pc ls st0) rest (va_Qi post B A1 a) (vx_X px BX AX) free) (hS : va_S A0 H0 H locs) (hA : ∀ q, q < H.size → A1 q → A0 q) (hf : ∀ q, free q → A0 q) (hAX : ∀ q, q < H.size → AX q → A0 q)
    (kx : ∀ (E : String) (ce : Cell) (q9 : Addr) (u : SX) (t : State) (H1 : Heap) (locs1 : List Loc), t.heap = H1 → s.vm.Alike t.vm → px u → BX E u t → H.size ≤ H1.size → (∀ q : Nat, q < H.size → ¬ AX q → H1[q]? = H[q]?) → va_S A0 H0 H1 locs1 → H1[q9]? = some ce → ce.vm = .none → s.vm.findClass E = some ce.cls → vx_W p l e R s m args below meth c H1 locs1 (cells + mc) (slots + ms) Q (F0 m pc ls rest) q9)
    (kk : ∀ (r : Int32) (u : S) (t : State) (H1 : Heap) (locs1 : List Loc), t.heap = H1 → s.vm.Alike t.vm → post r u → B u t → H.size ≤ H1.size → (∀ q : Nat, q < H.size → ¬ A1 q → H1[q]? = H[q]?) → va_S A0 H0 H1 locs1 → W p l e R s m args below meth c H1 locs1 (cells + mc) (slots + ms) Q (F0 m (pc + 3) ls (.int r :: rest))) : W p l e R s m args below meth c H locs cells slots Q (F0 m pc ls st0) := by
  intro T hT X
  rcases hr T hT X with ⟨v, st₀, t, T', L, h0, X', hL, e1, e2, ⟨⟨r, u, hv, hp, hb⟩, hF⟩, st⟩ | ⟨q, st₀, t, T', L, E, ce, h0, X', hL, e1, e2, ⟨u, hp, hb, hF⟩, hce, hcv, hcl, st⟩
  · cases hv
    obtain ⟨k1, k2, k3⟩ := vx_keep h0 e1 hS hA hf hL hF
    obtain ⟨t2, a1, b1⟩ := kk r u t T'.heap (locs ++ L) e1.symm (by rw [← e2]; exact X'.warmed.alike) hp hb k1 k2 k3 T' rfl X'
    exact ⟨t2, st t2 a1, b1⟩
  · obtain ⟨k1, k2, k3⟩ := vx_keep h0 e1 hS hAX hf hL hF
    obtain ⟨t2, a1, b1⟩ := kx E ce q u t T'.heap (locs ++ L) e1.symm (by rw [← e2]; exact X'.warmed.alike) hp hb k1 k2 k3 (by rw [e1]; exact hce) hcv hcl T' rfl X'
    exact ⟨t2, st.trans a1, b1⟩
theorem vx_calll {S SX : Type} {post : Int64 → S → Prop} {px : SX → Prop} {B : S → State → Prop} {BX : String → SX → State → Prop} {AX : Nat → Prop} (hr : vx_Run p l e R s m args below meth c H locs cells slots mc ms (F0 m pc ls st0) rest (va_Ql post B A1 a) (vx_X px BX AX) free) (hS : va_S A0 H0 H locs) (hA : ∀ q, q < H.size → A1 q → A0 q) (hf : ∀ q, free q → A0 q) (hAX : ∀ q, q < H.size → AX q → A0 q)
    (kx : ∀ (E : String) (ce : Cell) (q9 : Addr) (u : SX) (t : State) (H1 : Heap) (locs1 : List Loc), t.heap = H1 → s.vm.Alike t.vm → px u → BX E u t → H.size ≤ H1.size → (∀ q : Nat, q < H.size → ¬ AX q → H1[q]? = H[q]?) → va_S A0 H0 H1 locs1 → H1[q9]? = some ce → ce.vm = .none → s.vm.findClass E = some ce.cls → vx_W p l e R s m args below meth c H1 locs1 (cells + mc) (slots + ms) Q (F0 m pc ls rest) q9)
    (kk : ∀ (r : Int64) (u : S) (t : State) (H1 : Heap) (locs1 : List Loc), t.heap = H1 → s.vm.Alike t.vm → post r u → B u t → H.size ≤ H1.size → (∀ q : Nat, q < H.size → ¬ A1 q → H1[q]? = H[q]?) → va_S A0 H0 H1 locs1 → W p l e R s m args below meth c H1 locs1 (cells + mc) (slots + ms) Q (F0 m (pc + 3) ls (.long r :: rest))) : W p l e R s m args below meth c H locs cells slots Q (F0 m pc ls st0) := by
  intro T hT X
  rcases hr T hT X with ⟨v, st₀, t, T', L, h0, X', hL, e1, e2, ⟨⟨r, u, hv, hp, hb⟩, hF⟩, st⟩ | ⟨q, st₀, t, T', L, E, ce, h0, X', hL, e1, e2, ⟨u, hp, hb, hF⟩, hce, hcv, hcl, st⟩
  · cases hv
    obtain ⟨k1, k2, k3⟩ := vx_keep h0 e1 hS hA hf hL hF
    obtain ⟨t2, a1, b1⟩ := kk r u t T'.heap (locs ++ L) e1.symm (by rw [← e2]; exact X'.warmed.alike) hp hb k1 k2 k3 T' rfl X'
    exact ⟨t2, st t2 a1, b1⟩
  · obtain ⟨k1, k2, k3⟩ := vx_keep h0 e1 hS hAX hf hL hF
    obtain ⟨t2, a1, b1⟩ := kx E ce q u t T'.heap (locs ++ L) e1.symm (by rw [← e2]; exact X'.warmed.alike) hp hb k1 k2 k3 (by rw [e1]; exact hce) hcv hcl T' rfl X'
    exact ⟨t2, st.trans a1, b1⟩
theorem vx_callf {S SX : Type} {post : UInt32 → S → Prop} {px : SX → Prop} {B : S → State → Prop} {BX : String → SX → State → Prop} {AX : Nat → Prop} (hr : vx_Run p l e R s m args below meth c H locs cells slots mc ms (F0 m pc ls st0) rest (va_Qf post B A1 a) (vx_X px BX AX) free) (hS : va_S A0 H0 H locs) (hA : ∀ q, q < H.size → A1 q → A0 q) (hf : ∀ q, free q → A0 q) (hAX : ∀ q, q < H.size → AX q → A0 q)
    (kx : ∀ (E : String) (ce : Cell) (q9 : Addr) (u : SX) (t : State) (H1 : Heap) (locs1 : List Loc), t.heap = H1 → s.vm.Alike t.vm → px u → BX E u t → H.size ≤ H1.size → (∀ q : Nat, q < H.size → ¬ AX q → H1[q]? = H[q]?) → va_S A0 H0 H1 locs1 → H1[q9]? = some ce → ce.vm = .none → s.vm.findClass E = some ce.cls → vx_W p l e R s m args below meth c H1 locs1 (cells + mc) (slots + ms) Q (F0 m pc ls rest) q9)
    (kk : ∀ (r : UInt32) (u : S) (t : State) (H1 : Heap) (locs1 : List Loc), t.heap = H1 → s.vm.Alike t.vm → post r u → B u t → H.size ≤ H1.size → (∀ q : Nat, q < H.size → ¬ A1 q → H1[q]? = H[q]?) → va_S A0 H0 H1 locs1 → W p l e R s m args below meth c H1 locs1 (cells + mc) (slots + ms) Q (F0 m (pc + 3) ls (.float r :: rest))) : W p l e R s m args below meth c H locs cells slots Q (F0 m pc ls st0) := by
  intro T hT X
  rcases hr T hT X with ⟨v, st₀, t, T', L, h0, X', hL, e1, e2, ⟨⟨r, u, hv, hp, hb⟩, hF⟩, st⟩ | ⟨q, st₀, t, T', L, E, ce, h0, X', hL, e1, e2, ⟨u, hp, hb, hF⟩, hce, hcv, hcl, st⟩
  · cases hv
    obtain ⟨k1, k2, k3⟩ := vx_keep h0 e1 hS hA hf hL hF
    obtain ⟨t2, a1, b1⟩ := kk r u t T'.heap (locs ++ L) e1.symm (by rw [← e2]; exact X'.warmed.alike) hp hb k1 k2 k3 T' rfl X'
    exact ⟨t2, st t2 a1, b1⟩
  · obtain ⟨k1, k2, k3⟩ := vx_keep h0 e1 hS hAX hf hL hF
    obtain ⟨t2, a1, b1⟩ := kx E ce q u t T'.heap (locs ++ L) e1.symm (by rw [← e2]; exact X'.warmed.alike) hp hb k1 k2 k3 (by rw [e1]; exact hce) hcv hcl T' rfl X'
    exact ⟨t2, st.trans a1, b1⟩
theorem vx_calld {S SX : Type} {post : UInt64 → S → Prop} {px : SX → Prop} {B : S → State → Prop} {BX : String → SX → State → Prop} {AX : Nat → Prop} (hr : vx_Run p l e R s m args below meth c H locs cells slots mc ms (F0 m pc ls st0) rest (va_Qd post B A1 a) (vx_X px BX AX) free) (hS : va_S A0 H0 H locs) (hA : ∀ q, q < H.size → A1 q → A0 q) (hf : ∀ q, free q → A0 q) (hAX : ∀ q, q < H.size → AX q → A0 q)
    (kx : ∀ (E : String) (ce : Cell) (q9 : Addr) (u : SX) (t : State) (H1 : Heap) (locs1 : List Loc), t.heap = H1 → s.vm.Alike t.vm → px u → BX E u t → H.size ≤ H1.size → (∀ q : Nat, q < H.size → ¬ AX q → H1[q]? = H[q]?) → va_S A0 H0 H1 locs1 → H1[q9]? = some ce → ce.vm = .none → s.vm.findClass E = some ce.cls → vx_W p l e R s m args below meth c H1 locs1 (cells + mc) (slots + ms) Q (F0 m pc ls rest) q9)
    (kk : ∀ (r : UInt64) (u : S) (t : State) (H1 : Heap) (locs1 : List Loc), t.heap = H1 → s.vm.Alike t.vm → post r u → B u t → H.size ≤ H1.size → (∀ q : Nat, q < H.size → ¬ A1 q → H1[q]? = H[q]?) → va_S A0 H0 H1 locs1 → W p l e R s m args below meth c H1 locs1 (cells + mc) (slots + ms) Q (F0 m (pc + 3) ls (.double r :: rest))) : W p l e R s m args below meth c H locs cells slots Q (F0 m pc ls st0) := by
  intro T hT X
  rcases hr T hT X with ⟨v, st₀, t, T', L, h0, X', hL, e1, e2, ⟨⟨r, u, hv, hp, hb⟩, hF⟩, st⟩ | ⟨q, st₀, t, T', L, E, ce, h0, X', hL, e1, e2, ⟨u, hp, hb, hF⟩, hce, hcv, hcl, st⟩
  · cases hv
    obtain ⟨k1, k2, k3⟩ := vx_keep h0 e1 hS hA hf hL hF
    obtain ⟨t2, a1, b1⟩ := kk r u t T'.heap (locs ++ L) e1.symm (by rw [← e2]; exact X'.warmed.alike) hp hb k1 k2 k3 T' rfl X'
    exact ⟨t2, st t2 a1, b1⟩
  · obtain ⟨k1, k2, k3⟩ := vx_keep h0 e1 hS hAX hf hL hF
    obtain ⟨t2, a1, b1⟩ := kx E ce q u t T'.heap (locs ++ L) e1.symm (by rw [← e2]; exact X'.warmed.alike) hp hb k1 k2 k3 (by rw [e1]; exact hce) hcv hcl T' rfl X'
    exact ⟨t2, st.trans a1, b1⟩
theorem vx_callv {S SX : Type} {post : S → Prop} {px : SX → Prop} {B : S → State → Prop} {BX : String → SX → State → Prop} {AX : Nat → Prop} (hr : vx_Run p l e R s m args below meth c H locs cells slots mc ms (F0 m pc ls st0) rest (va_Qv post B A1 a) (vx_X px BX AX) free) (hS : va_S A0 H0 H locs) (hA : ∀ q, q < H.size → A1 q → A0 q) (hf : ∀ q, free q → A0 q) (hAX : ∀ q, q < H.size → AX q → A0 q)
    (kx : ∀ (E : String) (ce : Cell) (q9 : Addr) (u : SX) (t : State) (H1 : Heap) (locs1 : List Loc), t.heap = H1 → s.vm.Alike t.vm → px u → BX E u t → H.size ≤ H1.size → (∀ q : Nat, q < H.size → ¬ AX q → H1[q]? = H[q]?) → va_S A0 H0 H1 locs1 → H1[q9]? = some ce → ce.vm = .none → s.vm.findClass E = some ce.cls → vx_W p l e R s m args below meth c H1 locs1 (cells + mc) (slots + ms) Q (F0 m pc ls rest) q9)
    (kk : ∀ (u : S) (t : State) (H1 : Heap) (locs1 : List Loc), t.heap = H1 → s.vm.Alike t.vm → post u → B u t → H.size ≤ H1.size → (∀ q : Nat, q < H.size → ¬ A1 q → H1[q]? = H[q]?) → va_S A0 H0 H1 locs1 → W p l e R s m args below meth c H1 locs1 (cells + mc) (slots + ms) Q (F0 m (pc + 3) ls (rest))) : W p l e R s m args below meth c H locs cells slots Q (F0 m pc ls st0) := by
  intro T hT X
  rcases hr T hT X with ⟨v, st₀, t, T', L, h0, X', hL, e1, e2, ⟨⟨u, hv, hp, hb⟩, hF⟩, st⟩ | ⟨q, st₀, t, T', L, E, ce, h0, X', hL, e1, e2, ⟨u, hp, hb, hF⟩, hce, hcv, hcl, st⟩
  · cases hv
    obtain ⟨k1, k2, k3⟩ := vx_keep h0 e1 hS hA hf hL hF
    obtain ⟨t2, a1, b1⟩ := kk u t T'.heap (locs ++ L) e1.symm (by rw [← e2]; exact X'.warmed.alike) hp hb k1 k2 k3 T' rfl X'
    exact ⟨t2, st t2 a1, b1⟩
  · obtain ⟨k1, k2, k3⟩ := vx_keep h0 e1 hS hAX hf hL hF
    obtain ⟨t2, a1, b1⟩ := kx E ce q u t T'.heap (locs ++ L) e1.symm (by rw [← e2]; exact X'.warmed.alike) hp hb k1 k2 k3 (by rw [e1]; exact hce) hcv hcl T' rfl X'
    exact ⟨t2, st.trans a1, b1⟩
/-- caught by the row x of this method's table; the rows ahead don't take it -/
theorem vx_catch {own name : String} {E : String} {ce : Cell} {q : Addr} (hown : s.vm.findClass own = some m.cls) (pre : List ExceptionTableEntry) (x : ExceptionTableEntry) (suf : List ExceptionTableEntry) (hsplit : c.exceptionTable.toList = pre ++ x :: suf)
    (hpass : ∀ z ∈ pre, covers z pc = false ∨ (z.catchType ≠ 0 ∧ ∃ nm : String, (Cond.classLink own z.catchType nm).before args s = true ∧ va_Nc E nm s)) (hx : covers x pc = true) (h0 : x.catchType ≠ 0)
    (hlink : (Cond.classLink own x.catchType name).before args s = true) (hcast : (Cond.castable E name).before args s = true) (hcell : H[q]? = some ce) (hv : ce.vm = .none) (hcl : s.vm.findClass E = some ce.cls)
    (kk : W p l e R s m args below meth c H locs cells slots Q (F0 m x.handlerPc ls [.ref q])) : vx_W p l e R s m args below meth c H locs cells slots Q (F0 m pc ls rest) q := by
  intro T hT X
  have hpl : e.platform.magicAccessors = ({} : Platform).magicAccessors := by rw [X.admits.platform]
  obtain ⟨c3, c4, hc3, hc4, hasg⟩ := Cond.castable_spec hcast
  cases Option.some.inj (hc3.symm.trans hcl)
  obtain ⟨c5, hc5, hcl5⟩ := Cond.classLink_spec hown hlink e.platform hpl
  cases Option.some.inj (hc4.symm.trans hc5)
  obtain ⟨vm', X', st⟩ := X.thenCaughtThrough q (g := F0 m pc ls rest) rfl (Steps.refl _) (by rw [hT]; exact hcell) (by rw [hv]; rfl) (by obtain ⟨k9, h9, -⟩ := Vm.findClass_spec hcl; exact ⟨k9, h9⟩) pre x suf hsplit
    (fun z hz => by
      rcases hpass z hz with h | ⟨hz0, nm, hl1, hn1⟩
      · exact Or.inl h
      · obtain ⟨c6, hc6, hcl6⟩ := Cond.classLink_spec hown hl1 e.platform hpl
        obtain ⟨a8, b8, h1, h2, h3⟩ := hn1
        cases Option.some.inj (h1.symm.trans hcl)
        cases Option.some.inj (h2.symm.trans hc6)
        exact Or.inr ⟨hz0, _, hcl6, h3⟩) hx (Or.inr ⟨h0, c4, hcl5, hasg⟩)
  obtain ⟨t, a1, b1⟩ := kk (T.setVm vm') hT X'
  exact ⟨t, st.trans a1, b1⟩
end Rows
section Ends
variable {p : Program} {l : Launch} {e : Env} {R : Room} {s : State} {m : MethodId} {args : Array Value} {below : List Frame} {meth : Method} {c : Code} {H : Heap} {locs : List Loc} {cells slots : Nat} {Q : State → Prop}
variable {mc ms : Nat} {free : Addr → Prop} {A0 A1 : Nat → Prop} {H0 : Heap} {a : Array Value} {ls : Array Slot} {st0 rest : List Value}
variable {Qc : Array Value → State → Outcome → State → Prop} {XC : String → State → State → Prop}
/-- what a body that may throw owes at its end -/
def vx_MQ (below : List Frame) (Qc : Array Value → State → Outcome → State → Prop) (XC : String → State → State → Prop) (a : Array Value) (s : State) (mc ms : Nat) (free : Addr → Prop) : State → Prop := fun t =>
  ∃ o, t.status = .running ∧ Ended t below o ∧ vx_Q Qc XC mc ms free a s o t
theorem vx_ret {g : JFrame} {mc ms : Nat} (k : W p l e R s m args below meth c H locs cells slots (MQ below Qc args s mc ms free) g) : W p l e R s m args below meth c H locs cells slots (vx_MQ below Qc XC args s mc ms free) g := by
  intro T hT X
  obtain ⟨t, a1, o, b1, b2, b3, b4⟩ := k T hT X
  exact ⟨t, a1, o, b1, b2, Or.inl ⟨b3, b4⟩⟩
/-- not caught here: it goes on to the caller -/
theorem vx_widen {g : JFrame} {q : Addr} {k n : Nat} (h1 : cells ≤ k) (h2 : slots ≤ n) (kk : vx_W p l e R s m args below meth c H locs k n Q g q) : vx_W p l e R s m args below meth c H locs cells slots Q g q := fun T hT X => kk T hT (stand_widen X h1 h2)
theorem vx_out {pc : Nat} {E : String} {ce : Cell} {q : Addr} {mc ms : Nat} (hout : ∀ x ∈ c.exceptionTable.toList, covers x pc = false) (hlocks : meth.locks = false) (hcell : H[q]? = some ce) (hv : ce.vm = .none) (hcl : s.vm.findClass E = some ce.cls)
    (hx : ∀ t : State, t.heap = H → s.vm.Alike t.vm → XC E s t) (hf : ∀ z ∈ locs, free z.base) (hc : cells ≤ mc) (hs : slots ≤ ms) :
    vx_W p l e R s m args below meth c H locs cells slots (vx_MQ below Qc XC args s mc ms free) (F0 m pc ls rest) q := by
  intro T hT X
  obtain ⟨st1, hrun, hend, hW, hsm⟩ := X.leaveThrown q (g := F0 m pc ls rest) rfl rfl rfl hout hlocks
  have hcell9 : (T.setFrames (.throwing q :: below)).heap[q]? = some ce := by
    show T.heap[q]? = some ce
    rw [hT]; exact hcell
  exact ⟨_, st1, .threw q, hrun, hend, Or.inr ⟨q, rfl, E, ce, locs, hx _ hT hW.alike, hcell9, hv, hcl, hW, hsm.mono hc hs, hf⟩⟩
theorem vx_frame {U : State} {k n : Nat} (h : s.sameButNew ({ U with vm := s.vm } : State) locs k n) : s.heap.size ≤ U.heap.size ∧ ∀ q : Nat, q < s.heap.size → (∀ z ∈ locs, z.base ≠ q) → U.heap[q]? = s.heap[q]? := by
  obtain ⟨-, h2, -, -, -, h6⟩ := h
  refine ⟨h2, fun q hq hz => ?_⟩
  obtain ⟨c9, e1, e2, e3, e4⟩ := h6 q _ (Array.getElem?_eq_getElem hq)
  have hs : c9.slots = (s.heap[q]).slots := Array.ext_getElem? fun i => e4 i fun hm => hz _ hm rfl
  have h9 : c9 = s.heap[q] := by
    rw [hs] at e2
    exact e2
  have e5 : U.heap[q]? = some c9 := e1
  rw [e5, h9, Array.getElem?_eq_getElem hq]
/-- the words of a throw but the four that speak of the heap -/
def vx_no (w : Cond) : Bool := decide (w ≠ .isRef (.static Bundle.tN "UNASSIGNED_STACK" Bundle.steD)) && decide (w ≠ .isRef (.static Bundle.tN "SUPPRESSED_SENTINEL" Bundle.listD)) && decide (w ≠ .laysStatic Bundle.tN "UNASSIGNED_STACK" Bundle.steD) && decide (w ≠ .laysStatic Bundle.tN "SUPPRESSED_SENTINEL" Bundle.listD)
def vx_at0 (own : String) (ic : Nat) (X : String) (names : List String) : List Cond := (Bundle.ownAtoms0 own ic X names).filter vx_no
def vx_atS (own : String) (ic : Nat) (X : String) (names : List String) : List Cond := (Bundle.ownAtoms own ic X names).filter vx_no
/-- a word that the tables alone decide, or a good one -/
def vx_ot (w : Cond) : Bool := w.onTables || goodWord w
theorem vx_ot_at {args a' : Array Value} {s U : State} {w : Cond} (hW : s.WarmedH U.vm) (hvm : s.vm = U.vm) (hg : vx_ot w = true) (h : w.before args s = true) : w.before a' U = true := by
  simp only [vx_ot, Bool.or_eq_true] at hg
  rcases hg with hg | hg
  · exact va_tabs hg hvm h
  · exact word_at hW (good_of_word hg) h
/-- a list's words: the good ones out of the method's own list, the others by premises of their own -/
theorem vx_hat {args : Array Value} {s : State} {L B : List Cond} (h1 : ∀ w ∈ L.filter goodWord, w.before args s = true) (h2 : ∀ w ∈ L.filter (fun w => !goodWord w), w ∈ B) (h3 : ∀ w ∈ B, w.before args s = true) : ∀ w ∈ L, w.before args s = true := by
  intro w hw
  by_cases g : goodWord w = true
  · exact h1 w (List.mem_filter.mpr ⟨hw, g⟩)
  · refine h3 w (h2 w (List.mem_filter.mpr ⟨hw, ?_⟩))
    show (!goodWord w) = true
    cases hgw : goodWord w
    · rfl
    · exact absurd hgw g
theorem vx_c {args : Array Value} {s : State} {w : Cond} {B : List Cond} (h : w.before args s = true) (t : ∀ w ∈ B, w.before args s = true) : ∀ w' ∈ w :: B, w'.before args s = true := fun w' h' => (List.mem_cons.mp h').elim (fun e => by rw [e]; exact h) (t w')
theorem vx_n {args : Array Value} {s : State} : ∀ w ∈ ([] : List Cond), w.before args s = true := fun _ h => nomatch h
theorem vx_own {args : Array Value} {s : State} {L : List Cond} (h1 : ∀ w ∈ L.filter vx_no, w.before args s = true)
    (hU : (Cond.isRef (.static Bundle.tN "UNASSIGNED_STACK" Bundle.steD)).before args s = true) (hN : (Cond.isRef (.static Bundle.tN "SUPPRESSED_SENTINEL" Bundle.listD)).before args s = true)
    (lU : (Cond.laysStatic Bundle.tN "UNASSIGNED_STACK" Bundle.steD).before args s = true) (lN : (Cond.laysStatic Bundle.tN "SUPPRESSED_SENTINEL" Bundle.listD).before args s = true) : ∀ w ∈ L, w.before args s = true := by
  intro w hw
  by_cases e1 : w = .isRef (.static Bundle.tN "UNASSIGNED_STACK" Bundle.steD)
  · rw [e1]; exact hU
  · by_cases e2 : w = .isRef (.static Bundle.tN "SUPPRESSED_SENTINEL" Bundle.listD)
    · rw [e2]; exact hN
    · by_cases e3 : w = .laysStatic Bundle.tN "UNASSIGNED_STACK" Bundle.steD
      · rw [e3]; exact lU
      · by_cases e4 : w = .laysStatic Bundle.tN "SUPPRESSED_SENTINEL" Bundle.listD
        · rw [e4]; exact lN
        · exact h1 w (List.mem_filter.mpr ⟨hw, by unfold vx_no; rw [decide_eq_true e1, decide_eq_true e2, decide_eq_true e3, decide_eq_true e4]; rfl⟩)
/-- where a static field lies, its class's statics cell in H -/
def vx_L (C n d : String) (A : Nat → Prop) (U : State) (H : Heap) : Prop := ∃ (c : ClassId) (k : Class) (i : Nat) (f : Field) (a : Nat) (cell : Cell), U.vm.findClass C = some c ∧ U.fieldFound? C n d = some (c, k, i, f) ∧ f.isStatic = true ∧ k.statics = some a ∧ H[a]? = some cell ∧ cell.vm.isStatics = true ∧ cell.cls = c ∧ f.slot < cell.slots.size ∧ k.staticTypes[f.slot]? = some f.type ∧ ¬ A a
theorem vx_L.moved {C n d : String} {A : Nat → Prop} {u U : State} {H : Heap} (hvm : u.vm.Alike U.vm) (h : vx_L C n d A u H) : vx_L C n d A U H := by
  obtain ⟨c, k, i, f, a, cell, h1, h2, h3, h4, h5, h6, h7, h8, h9, h10⟩ := h
  obtain ⟨k', hi', he⟩ := State.fieldFound?_setVm hvm h2
  exact ⟨c, k', i, f, a, cell, by rw [hvm.findClass]; exact h1, hi', h3, by rw [he]; exact h4, h5, h6, h7, h8, by rw [he]; exact h9, h10⟩
theorem vx_L.kept {C n d : String} {A : Nat → Prop} {U : State} {H H1 : Heap} (h : vx_L C n d A U H) (hq : ∀ a : Nat, a < H.size → ¬ A a → H1[a]? = H[a]?) : vx_L C n d A U H1 := by
  obtain ⟨c, k, i, f, a, cell, h1, h2, h3, h4, h5, h6, h7, h8, h9, h10⟩ := h
  exact ⟨c, k, i, f, a, cell, h1, h2, h3, h4, by rw [hq a (Array.getElem?_eq_some_iff.mp h5).1 h10]; exact h5, h6, h7, h8, h9, h10⟩
theorem vx_L.narrow {C n d : String} {A B : Nat → Prop} {U : State} {H : Heap} (h : vx_L C n d A U H) (hAB : ∀ q, B q → A q) : vx_L C n d B U H := by
  obtain ⟨c, k, i, f, a, cell, h1, h2, h3, h4, h5, h6, h7, h8, h9, h10⟩ := h
  exact ⟨c, k, i, f, a, cell, h1, h2, h3, h4, h5, h6, h7, h8, h9, fun z => h10 (hAB _ z)⟩
theorem vx_L.word {C n d : String} {A : Nat → Prop} {s : State} {args : Array Value} (h : vx_L C n d A s s.heap) : (Cond.laysStatic C n d).before args s = true := by
  obtain ⟨c, k, i, f, a, cell, h1, h2, h3, h4, h5, h6, h7, h8, h9, -⟩ := h
  show (Cond.laysStatic C n d).holds args s none s [] = true
  exact Cond.laysStatic_of h1 h2 h3 h4 h5 h6 h7 h8 h9
/-- .. and what it holds: null or some reference -/
def vx_Zq (C n d : String) (A : Nat → Prop) (U : State) (H : Heap) : Prop := va_Zq C n d A U H ∧ vx_L C n d A U H
theorem vx_Zq.moved {C n d : String} {A : Nat → Prop} {u U : State} {H : Heap} (hvm : u.vm.Alike U.vm) (h : vx_Zq C n d A u H) : vx_Zq C n d A U H := ⟨va_Zq.moved hvm h.1, vx_L.moved hvm h.2⟩
theorem vx_Zq.kept {C n d : String} {A : Nat → Prop} {U : State} {H H1 : Heap} (h : vx_Zq C n d A U H) (hq : ∀ a : Nat, a < H.size → ¬ A a → H1[a]? = H[a]?) : vx_Zq C n d A U H1 := ⟨va_Zq.kept h.1 hq, vx_L.kept h.2 hq⟩
theorem vx_Zq.narrow {C n d : String} {A B : Nat → Prop} {U : State} {H : Heap} (h : vx_Zq C n d A U H) (hAB : ∀ q, B q → A q) : vx_Zq C n d B U H := ⟨va_Zq.narrow h.1 hAB, vx_L.narrow h.2 hAB⟩
theorem vx_Zqof {args : Array Value} {s : State} {C n d : String} {A : Nat → Prop} (hl : (Cond.laysStatic C n d).before args s = true) (hini : (Cond.initialized C).before args s = true) (h : (Cond.isRef (.static C n d)).before args s = true) (hA : ∀ a : Nat, a < s.heap.size → ¬ A a) : vx_Zq C n d A s s.heap := by
  refine ⟨va_Zqof hl hini h hA, ?_⟩
  obtain ⟨c, k, i, f, a, cell, h1, h2, h3, h4, h5, h6, h7, h8, h9⟩ := Cond.laysStatic_spec hl
  exact ⟨c, k, i, f, a, cell, h1, h2, h3, h4, h5, h6, h7, h8, h9, hA a (Array.getElem?_eq_some_iff.mp h5).1⟩
theorem vx_isRef {C n d : String} {v : Value} {A : Nat → Prop} {s : State} {args : Array Value} (h : va_Z C n d v A s s.heap) (hv : v.isRef = true) : (Cond.isRef (.static C n d)).before args s = true := by
  obtain ⟨cf, kf, fi, f, a, cell, h1, h2, h3, h4, h5, h6, h7, -⟩ := h
  have he : (Term.static C n d).eval args s none [] s = some v := by
    simp [Term.eval, State.fieldNamed?, h1, h2, h4, h5, h6, h7]
  simp only [Cond.before, Cond.holds, Cond.value, he]
  cases v <;> simp_all [Value.isRef]
theorem vx_isRefq {C n d : String} {A : Nat → Prop} {s : State} {args : Array Value} (h : va_Zq C n d A s s.heap) : (Cond.isRef (.static C n d)).before args s = true := by
  rcases h with h | ⟨t, h⟩
  · exact vx_isRef h rfl
  · exact vx_isRef h rfl
/-- the same frame, seen from here: as if the method were called anew in this heap -/
theorem vx_rebase {T : State} (X : Stand p l e R s m args below meth c T locs cells slots) {R' : Room} (hf : R'.frames ≤ R.frames) (hl : R'.locals ≤ R.locals) (hc : cells + R'.cells ≤ R.cells) (hs : slots + R'.slots ≤ R.slots) :
    Stand p l e R' ((T.setVm s.vm).setFrames (.invoking m args :: below)) m args below meth c T [] 0 0 := by
  have htop : (T.setVm s.vm).topJava?.isSome := X.here.top
  have hF : ((T.setVm s.vm).setFrames (.invoking m args :: below)).frames = .invoking m args :: below := State.frames_setFrames _ (State.cur_lt_of_top htop)
  obtain ⟨g₀, hg0⟩ := Option.isSome_iff_exists.mp htop
  obtain ⟨r, hr⟩ := State.topJava?_eq_some.mp hg0
  have hl9 : e.platform.stackLimits (T.setVm s.vm).me = e.platform.stackLimits s.me := X.limits
  have hb9 : (T.setVm s.vm).me.stackBytes = s.me.stackBytes := X.bytes
  refine ⟨X.admits, X.cas, X.clock, hF, ?_, X.hears, X.method, X.code, X.here, X.tail, X.warmed, ?_, ?_, ?_⟩
  · have h := X.room
    have hU : ((T.setVm s.vm).setFrames (.invoking m args :: below)).localsInUse = s.localsInUse := by
      rw [State.localsInUse_invoking hF (meth := meth) (c := c) X.method X.code, State.localsInUse_invoking X.frames X.method X.code]
    simp only [State.hasRoom, Bool.and_eq_true, decide_eq_true_eq] at h ⊢
    obtain ⟨⟨⟨⟨h1, h2, h3, h4, h5, h6⟩, h7⟩, h8⟩, h9⟩ := h
    rw [X.frames, List.length_cons] at h2 h3
    have q1 := X.heapSize
    have q2 := X.used
    simp only [hF, hU, List.length_cons, State.stackLimits_setFrames, State.stackBytes_setFrames, hl9, hb9]
    refine ⟨⟨⟨⟨by omega, by omega, by omega, by omega, by omega, h6⟩, ?_⟩, ?_⟩, X.book⟩
    · show T.heap.size + R'.cells ≤ e.platform.maxCells
      omega
    · show T.slotsUsed + R'.slots ≤ e.platform.maxSlots
      omega
  · rw [State.stackLimits_setFrames]; rfl
  · rw [State.stackBytes_setFrames]; rfl
  · refine ⟨?_, Nat.le_refl _, Nat.le_refl _, ?_, ?_, fun a c9 h9 => ⟨c9, h9, rfl, rfl, fun _ _ => rfl⟩⟩
    · obtain ⟨t, ht, -⟩ := State.frames_cons hr
      show T.setVm s.vm = { ((T.setVm s.vm).setFrames (.invoking m args :: below)).setFrames (T.setVm s.vm).frames with heap := T.heap, slotsUsed := T.slotsUsed }
      rw [State.setFrames_setFrames, State.setFrames_self ht]
      rfl
    · show T.slotsUsed = T.slotsUsed + ((T.heap.toList.drop T.heap.size).map (·.slots.size)).sum
      rw [List.drop_eq_nil_of_le (Nat.le_of_eq Array.length_toList)]
      rfl
    · show ((T.heap.toList.drop T.heap.size).map (·.slots.size)).sum ≤ 0
      rw [List.drop_eq_nil_of_le (Nat.le_of_eq Array.length_toList)]
      exact Nat.le_refl _
/-- 'throw new E()': new; dup; invokespecial; athrow -/
theorem vx_throw0 {cc : ByteArray} {pc : Nat} (hexec : p.tables.exec = Jvm.exec) (hb : c.code = cc) (hl : l.stackTraces = false) {own cls : String} {names : List String} {ik ic mc ms : Nat} {A : Nat → Prop}
    (hown : s.vm.findClass own = some m.cls) (hcls : Bundle.fit cls = true) (hnames : ∀ n ∈ names, Bundle.fit n = true)
    (hk : (Cond.classLink own ik cls).before args s = true) (hini : (Cond.initialized cls).before args s = true) (hat : ∀ w ∈ vx_at0 own ic cls names, w.before args s = true)
    (hgood : ∀ w ∈ Cond.classLink own ik cls :: Cond.initialized cls :: vx_at0 own ic cls names, vx_ot w = true)
    (hU : vx_Zq Bundle.tN "UNASSIGNED_STACK" Bundle.steD A s s.heap) (hN : vx_Zq Bundle.tN "SUPPRESSED_SENTINEL" Bundle.listD A s s.heap) (hS : va_S A s.heap H locs) (hsize : ls.size = c.maxLocals)
    (d0 : decode cc pc = .ok (.new ik, 3)) (d3 : decode cc (pc + 3) = .ok (.dup, 1)) (d4 : decode cc (pc + 4) = .ok (.invokespecial ic, 3)) (d7 : decode cc (pc + 7) = .ok (.athrow, 1))
    (hout : ∀ x ∈ c.exceptionTable.toList, covers x (pc + 7) = false)
    (hRframes : names.length + 3 < R.frames) (hRlocals : (rest.map fun v => v.category).sum + (13 * (names.length + 1) + 42) ≤ R.locals) (hRcells : cells + 1 ≤ R.cells) (hRslots : slots + 6 ≤ R.slots) (hlocks : meth.locks = false)
    (hx : ∀ t : State, s.vm.Alike t.vm → H.size ≤ t.heap.size → (∀ q : Nat, q < H.size → t.heap[q]? = H[q]?) → XC cls s t)
    (hf : ∀ z ∈ locs, free z.base) (hc : cells + 1 ≤ mc) (hs : slots + 6 ≤ ms) :
    W p l e R s m args below meth c H locs cells slots (vx_MQ below Qc XC args s mc ms free) (F0 m pc ls rest) := by
  intro T hT X
  have htr : e.platform.stackTraces = false := (show e.platform.stackTraces = l.stackTraces by rw [X.admits.platform]).trans hl
  have Y := vx_rebase X (R' := { frames := R.frames, locals := R.locals, cells := 1, slots := 6 }) (Nat.le_refl _) (Nat.le_refl _) hRcells hRslots
  obtain ⟨s', hA⟩ : ∃ z, z = (T.setVm s.vm).setFrames (.invoking m args :: below) := ⟨_, rfl⟩
  rw [← hA] at Y
  have hvm : s'.vm = s.vm := by rw [hA]; rfl
  have hhp : s'.heap = H := by rw [hA]; exact hT
  have hW0 : s.WarmedH s'.vm := by rw [hvm]; exact State.WarmedH.refl s
  have hat' : ∀ w ∈ vx_at0 own ic cls names, w.before args s' = true := fun w hw => vx_ot_at hW0 hvm.symm (hgood w (List.mem_cons_of_mem _ (List.mem_cons_of_mem _ hw))) (hat w hw)
  have hk' : (Cond.classLink own ik cls).before args s' = true := vx_ot_at hW0 hvm.symm (hgood _ List.mem_cons_self) hk
  have hini' : (Cond.initialized cls).before args s' = true := vx_ot_at hW0 hvm.symm (hgood _ (List.mem_cons_of_mem _ List.mem_cons_self)) hini
  have hU' : vx_Zq Bundle.tN "UNASSIGNED_STACK" Bundle.steD A s' s'.heap := by rw [hhp]; exact vx_Zq.moved hW0.alike (hU.kept hS.2.1)
  have hN' : vx_Zq Bundle.tN "SUPPRESSED_SENTINEL" Bundle.listD A s' s'.heap := by rw [hhp]; exact vx_Zq.moved hW0.alike (hN.kept hS.2.1)
  have h : ∀ w ∈ Bundle.ownAtoms0 own ic cls names, w.before args s' = true := vx_own hat' (vx_isRefq hU'.1) (vx_isRefq hN'.1) hU'.2.word hN'.2.word
  have hown' : s'.vm.findClass own = some m.cls := by rw [hvm]; exact hown
  have hins : (Cond.instantiable cls 6).before args s' = true := h _ (by simp [Bundle.ownAtoms0])
  obtain ⟨vm₁, cX, kX, hfX, hkX, -, -, X₁, st1⟩ := Y.newCold hexec (own := own) (C := cls) (index := ik) (n := 6) hown' hk' hins hini'
    (g := F0 m pc ls rest) rfl (by rw [hb]; exact d0) (Nat.le_refl _) (Nat.le_refl _)
  generalize hT1 : (T.setVm vm₁).pushCell { cls := cX, slots := kX.instanceTypes.map defaultValue, vm := .none } = T1 at X₁ st1
  have hcat : (Value.ref T.heap.size).category = 1 := rfl
  have hcellA : T1.heap[T.heap.size]? = some (freshCell cX kX) := by rw [← hT1]; exact State.heap_pushCell_size _ _
  have d3' : decode c.code (pc + 3) = .ok (.dup, 1) := by rw [hb]; exact d3
  obtain ⟨U, hsteps, hrun, hend, hW, hsame, ce, hce, hO⟩ := X₁.ctorThrow0 hexec htr (own := own) (cls := cls) (names := names) (ic := ic) hown' hcls hnames h (fun x hx => nomatch hx) hfX hkX hcellA (by rw [hhp, hT]; exact Nat.le_refl _)
    (g := { method := m, pc := pc + 4, locals := ls, stack := .ref T.heap.size :: .ref T.heap.size :: rest, locked := none }) rfl hsize rfl rfl (rest := rest) rfl
    (by rw [hb]; exact d4) (by rw [hb]; exact d7) hout hRframes (by simp only [List.map_cons, List.sum_cons, hcat]; omega) hlocks
  obtain ⟨f1, f2⟩ := vx_frame hsame
  rw [hhp] at f1 f2
  have hWs : s.WarmedH U.vm := State.WarmedH.trans hW0 hW
  have hcl : s.vm.findClass cls = some ce.cls := by
    have h9 := hO.cls
    rw [hvm] at h9
    exact h9
  have hall : s.sameButNew ({ U with vm := s.vm } : State) locs mc ms := by
    subst hA
    obtain ⟨e1, e2⟩ := hsame
    rw [State.setFrames_setFrames] at e1
    have h2 : (T.setVm s.vm).sameButNew ({ U with vm := s.vm } : State) [] (0 + 1) (0 + 6) := ⟨e1, e2⟩
    have h3 := X.same.trans h2
    rw [List.append_nil] at h3
    exact h3.mono hc hs
  refine ⟨U, ?_, .threw T.heap.size, hrun, hend, Or.inr ⟨T.heap.size, rfl, cls, ce, locs, hx U hWs.alike f1 (fun q hq => f2 q hq (fun z hz => nomatch hz)), hce, hO.vm, hcl, hWs, hall, hf⟩⟩
  refine st1 _ ?_
  show Steps p.tables e below (T1.setTop { method := m, pc := pc + 3, locals := ls, stack := .ref T.heap.size :: rest, locked := none }) _
  jvm_step X₁.here [X₁.here.top, hexec, d3', Value.category]
  exact hsteps
/-- 'throw new E("text")': new; dup; ldc; invokespecial; athrow -/
theorem vx_throwS {cc : ByteArray} {pc : Nat} (hexec : p.tables.exec = Jvm.exec) (hb : c.code = cc) (hl : l.stackTraces = false) {own cls text : String} {names : List String} {ik is ic mc ms sa : Nat} {A : Nat → Prop}
    (hown : s.vm.findClass own = some m.cls) (hcls : Bundle.fit cls = true) (hnames : ∀ n ∈ names, Bundle.fit n = true)
    (hk : (Cond.classLink own ik cls).before args s = true) (hini : (Cond.initialized cls).before args s = true) (hstr : vk_R own is text sa s) (hat : ∀ w ∈ vx_atS own ic cls names, w.before args s = true)
    (hgood : ∀ w ∈ Cond.classLink own ik cls :: Cond.initialized cls :: vx_atS own ic cls names, vx_ot w = true)
    (hU : vx_Zq Bundle.tN "UNASSIGNED_STACK" Bundle.steD A s s.heap) (hN : vx_Zq Bundle.tN "SUPPRESSED_SENTINEL" Bundle.listD A s s.heap) (hS : va_S A s.heap H locs) (hsize : ls.size = c.maxLocals)
    (d0 : decode cc pc = .ok (.new ik, 3)) (d3 : decode cc (pc + 3) = .ok (.dup, 1)) (d4 : decode cc (pc + 4) = .ok (.ldc is, 2)) (d6 : decode cc (pc + 6) = .ok (.invokespecial ic, 3)) (d9 : decode cc (pc + 9) = .ok (.athrow, 1))
    (hout : ∀ x ∈ c.exceptionTable.toList, covers x (pc + 9) = false)
    (hRframes : names.length + 3 < R.frames) (hRlocals : (rest.map fun v => v.category).sum + (13 * (names.length + 1) + 43) ≤ R.locals) (hRcells : cells + 1 ≤ R.cells) (hRslots : slots + 6 ≤ R.slots) (hlocks : meth.locks = false)
    (hx : ∀ t : State, s.vm.Alike t.vm → H.size ≤ t.heap.size → (∀ q : Nat, q < H.size → t.heap[q]? = H[q]?) → XC cls s t)
    (hf : ∀ z ∈ locs, free z.base) (hc : cells + 1 ≤ mc) (hs : slots + 6 ≤ ms) :
    W p l e R s m args below meth c H locs cells slots (vx_MQ below Qc XC args s mc ms free) (F0 m pc ls rest) := by
  intro T hT X
  have htr : e.platform.stackTraces = false := (show e.platform.stackTraces = l.stackTraces by rw [X.admits.platform]).trans hl
  have Y := vx_rebase X (R' := { frames := R.frames, locals := R.locals, cells := 1, slots := 6 }) (Nat.le_refl _) (Nat.le_refl _) hRcells hRslots
  obtain ⟨s', hA⟩ : ∃ z, z = (T.setVm s.vm).setFrames (.invoking m args :: below) := ⟨_, rfl⟩
  rw [← hA] at Y
  have hvm : s'.vm = s.vm := by rw [hA]; rfl
  have hhp : s'.heap = H := by rw [hA]; exact hT
  have hW0 : s.WarmedH s'.vm := by rw [hvm]; exact State.WarmedH.refl s
  have hat' : ∀ w ∈ vx_atS own ic cls names, w.before args s' = true := fun w hw => vx_ot_at hW0 hvm.symm (hgood w (List.mem_cons_of_mem _ (List.mem_cons_of_mem _ hw))) (hat w hw)
  have hk' : (Cond.classLink own ik cls).before args s' = true := vx_ot_at hW0 hvm.symm (hgood _ List.mem_cons_self) hk
  have hini' : (Cond.initialized cls).before args s' = true := vx_ot_at hW0 hvm.symm (hgood _ (List.mem_cons_of_mem _ List.mem_cons_self)) hini
  have hU' : vx_Zq Bundle.tN "UNASSIGNED_STACK" Bundle.steD A s' s'.heap := by rw [hhp]; exact vx_Zq.moved hW0.alike (hU.kept hS.2.1)
  have hN' : vx_Zq Bundle.tN "SUPPRESSED_SENTINEL" Bundle.listD A s' s'.heap := by rw [hhp]; exact vx_Zq.moved hW0.alike (hN.kept hS.2.1)
  have h : ∀ w ∈ Bundle.ownAtoms own ic cls names, w.before args s' = true := vx_own hat' (vx_isRefq hU'.1) (vx_isRefq hN'.1) hU'.2.word hN'.2.word
  have hown' : s'.vm.findClass own = some m.cls := by rw [hvm]; exact hown
  have hins : (Cond.instantiable cls 6).before args s' = true := h _ (by simp [Bundle.ownAtoms])
  obtain ⟨vm₁, cX, kX, hfX, hkX, -, -, X₁, st1⟩ := Y.newCold hexec (own := own) (C := cls) (index := ik) (n := 6) hown' hk' hins hini'
    (g := F0 m pc ls rest) rfl (by rw [hb]; exact d0) (Nat.le_refl _) (Nat.le_refl _)
  generalize hT1 : (T.setVm vm₁).pushCell { cls := cX, slots := kX.instanceTypes.map defaultValue, vm := .none } = T1 at X₁ st1
  have hcat : (Value.ref T.heap.size).category = 1 := rfl
  have hcellA : T1.heap[T.heap.size]? = some (freshCell cX kX) := by rw [← hT1]; exact State.heap_pushCell_size _ _
  have d3' : decode c.code (pc + 3) = .ok (.dup, 1) := by rw [hb]; exact d3
  have d4' : decode c.code (pc + 4) = .ok (.ldc is, 2) := by rw [hb]; exact d4
  have hstr' : vk_R own is text sa s' := vk_R.warm hW0 hstr
  obtain ⟨U, hsteps, hrun, hend, hW, hsame, ce, hce, hO⟩ := X₁.ctorThrowS hexec htr (own := own) (cls := cls) (names := names) (ic := ic) hown' hcls hnames h (fun x hx => nomatch hx) hfX hkX hcellA (by rw [hhp, hT]; exact Nat.le_refl _) (msg := .ref sa) rfl
    (g := { method := m, pc := pc + 6, locals := ls, stack := .ref sa :: .ref T.heap.size :: .ref T.heap.size :: rest, locked := none }) rfl hsize rfl rfl (rest := rest) rfl
    (by rw [hb]; exact d6) (by rw [hb]; exact d9) hout hRframes (by simp only [List.map_cons, List.sum_cons, hcat]; omega) hlocks
  obtain ⟨f1, f2⟩ := vx_frame hsame
  rw [hhp] at f1 f2
  have hWs : s.WarmedH U.vm := State.WarmedH.trans hW0 hW
  have hcl : s.vm.findClass cls = some ce.cls := by
    have h9 := hO.cls
    rw [hvm] at h9
    exact h9
  have hall : s.sameButNew ({ U with vm := s.vm } : State) locs mc ms := by
    subst hA
    obtain ⟨e1, e2⟩ := hsame
    rw [State.setFrames_setFrames] at e1
    have h2 : (T.setVm s.vm).sameButNew ({ U with vm := s.vm } : State) [] (0 + 1) (0 + 6) := ⟨e1, e2⟩
    have h3 := X.same.trans h2
    rw [List.append_nil] at h3
    exact h3.mono hc hs
  refine ⟨U, ?_, .threw T.heap.size, hrun, hend, Or.inr ⟨T.heap.size, rfl, cls, ce, locs, hx U hWs.alike f1 (fun q hq => f2 q hq (fun z hz => nomatch hz)), hce, hO.vm, hcl, hWs, hall, hf⟩⟩
  refine st1 _ ?_
  show Steps p.tables e below (T1.setTop { method := m, pc := pc + 3, locals := ls, stack := .ref T.heap.size :: rest, locked := none }) _
  jvm_step X₁.here [X₁.here.top, hexec, d3', Value.category]
  exact X₁.ldcString hexec (own := own) (text := text) (index := is) (a := sa) hown' hstr'.1 hstr'.2
    (g := { method := m, pc := pc + 4, locals := ls, stack := .ref T.heap.size :: .ref T.heap.size :: rest, locked := none }) rfl d4' _ hsteps
/-- 'throw new E("text")', the text by a wide index -/
theorem vx_throwSW {cc : ByteArray} {pc : Nat} (hexec : p.tables.exec = Jvm.exec) (hb : c.code = cc) (hl : l.stackTraces = false) {own cls text : String} {names : List String} {ik is ic mc ms sa : Nat} {A : Nat → Prop}
    (hown : s.vm.findClass own = some m.cls) (hcls : Bundle.fit cls = true) (hnames : ∀ n ∈ names, Bundle.fit n = true)
    (hk : (Cond.classLink own ik cls).before args s = true) (hini : (Cond.initialized cls).before args s = true) (hstr : vk_R own is text sa s) (hat : ∀ w ∈ vx_atS own ic cls names, w.before args s = true)
    (hgood : ∀ w ∈ Cond.classLink own ik cls :: Cond.initialized cls :: vx_atS own ic cls names, vx_ot w = true)
    (hU : vx_Zq Bundle.tN "UNASSIGNED_STACK" Bundle.steD A s s.heap) (hN : vx_Zq Bundle.tN "SUPPRESSED_SENTINEL" Bundle.listD A s s.heap) (hS : va_S A s.heap H locs) (hsize : ls.size = c.maxLocals)
    (d0 : decode cc pc = .ok (.new ik, 3)) (d3 : decode cc (pc + 3) = .ok (.dup, 1)) (d4 : decode cc (pc + 4) = .ok (.ldc_w is, 3)) (d7 : decode cc (pc + 7) = .ok (.invokespecial ic, 3)) (d10 : decode cc (pc + 10) = .ok (.athrow, 1))
    (hout : ∀ x ∈ c.exceptionTable.toList, covers x (pc + 10) = false)
    (hRframes : names.length + 3 < R.frames) (hRlocals : (rest.map fun v => v.category).sum + (13 * (names.length + 1) + 43) ≤ R.locals) (hRcells : cells + 1 ≤ R.cells) (hRslots : slots + 6 ≤ R.slots) (hlocks : meth.locks = false)
    (hx : ∀ t : State, s.vm.Alike t.vm → H.size ≤ t.heap.size → (∀ q : Nat, q < H.size → t.heap[q]? = H[q]?) → XC cls s t)
    (hf : ∀ z ∈ locs, free z.base) (hc : cells + 1 ≤ mc) (hs : slots + 6 ≤ ms) :
    W p l e R s m args below meth c H locs cells slots (vx_MQ below Qc XC args s mc ms free) (F0 m pc ls rest) := by
  intro T hT X
  have htr : e.platform.stackTraces = false := (show e.platform.stackTraces = l.stackTraces by rw [X.admits.platform]).trans hl
  have Y := vx_rebase X (R' := { frames := R.frames, locals := R.locals, cells := 1, slots := 6 }) (Nat.le_refl _) (Nat.le_refl _) hRcells hRslots
  obtain ⟨s', hA⟩ : ∃ z, z = (T.setVm s.vm).setFrames (.invoking m args :: below) := ⟨_, rfl⟩
  rw [← hA] at Y
  have hvm : s'.vm = s.vm := by rw [hA]; rfl
  have hhp : s'.heap = H := by rw [hA]; exact hT
  have hW0 : s.WarmedH s'.vm := by rw [hvm]; exact State.WarmedH.refl s
  have hat' : ∀ w ∈ vx_atS own ic cls names, w.before args s' = true := fun w hw => vx_ot_at hW0 hvm.symm (hgood w (List.mem_cons_of_mem _ (List.mem_cons_of_mem _ hw))) (hat w hw)
  have hk' : (Cond.classLink own ik cls).before args s' = true := vx_ot_at hW0 hvm.symm (hgood _ List.mem_cons_self) hk
  have hini' : (Cond.initialized cls).before args s' = true := vx_ot_at hW0 hvm.symm (hgood _ (List.mem_cons_of_mem _ List.mem_cons_self)) hini
  have hU' : vx_Zq Bundle.tN "UNASSIGNED_STACK" Bundle.steD A s' s'.heap := by rw [hhp]; exact vx_Zq.moved hW0.alike (hU.kept hS.2.1)
  have hN' : vx_Zq Bundle.tN "SUPPRESSED_SENTINEL" Bundle.listD A s' s'.heap := by rw [hhp]; exact vx_Zq.moved hW0.alike (hN.kept hS.2.1)
  have h : ∀ w ∈ Bundle.ownAtoms own ic cls names, w.before args s' = true := vx_own hat' (vx_isRefq hU'.1) (vx_isRefq hN'.1) hU'.2.word hN'.2.word
  have hown' : s'.vm.findClass own = some m.cls := by rw [hvm]; exact hown
  have hins : (Cond.instantiable cls 6).before args s' = true := h _ (by simp [Bundle.ownAtoms])
  obtain ⟨vm₁, cX, kX, hfX, hkX, -, -, X₁, st1⟩ := Y.newCold hexec (own := own) (C := cls) (index := ik) (n := 6) hown' hk' hins hini'
    (g := F0 m pc ls rest) rfl (by rw [hb]; exact d0) (Nat.le_refl _) (Nat.le_refl _)
  generalize hT1 : (T.setVm vm₁).pushCell { cls := cX, slots := kX.instanceTypes.map defaultValue, vm := .none } = T1 at X₁ st1
  have hcat : (Value.ref T.heap.size).category = 1 := rfl
  have hcellA : T1.heap[T.heap.size]? = some (freshCell cX kX) := by rw [← hT1]; exact State.heap_pushCell_size _ _
  have d3' : decode c.code (pc + 3) = .ok (.dup, 1) := by rw [hb]; exact d3
  have d4' : decode c.code (pc + 4) = .ok (.ldc_w is, 3) := by rw [hb]; exact d4
  have hstr' : vk_R own is text sa s' := vk_R.warm hW0 hstr
  obtain ⟨U, hsteps, hrun, hend, hW, hsame, ce, hce, hO⟩ := X₁.ctorThrowS hexec htr (own := own) (cls := cls) (names := names) (ic := ic) hown' hcls hnames h (fun x hx => nomatch hx) hfX hkX hcellA (by rw [hhp, hT]; exact Nat.le_refl _) (msg := .ref sa) rfl
    (g := { method := m, pc := pc + 7, locals := ls, stack := .ref sa :: .ref T.heap.size :: .ref T.heap.size :: rest, locked := none }) rfl hsize rfl rfl (rest := rest) rfl
    (by rw [hb]; exact d7) (by rw [hb]; exact d10) hout hRframes (by simp only [List.map_cons, List.sum_cons, hcat]; omega) hlocks
  obtain ⟨f1, f2⟩ := vx_frame hsame
  rw [hhp] at f1 f2
  have hWs : s.WarmedH U.vm := State.WarmedH.trans hW0 hW
  have hcl : s.vm.findClass cls = some ce.cls := by
    have h9 := hO.cls
    rw [hvm] at h9
    exact h9
  have hall : s.sameButNew ({ U with vm := s.vm } : State) locs mc ms := by
    subst hA
    obtain ⟨e1, e2⟩ := hsame
    rw [State.setFrames_setFrames] at e1
    have h2 : (T.setVm s.vm).sameButNew ({ U with vm := s.vm } : State) [] (0 + 1) (0 + 6) := ⟨e1, e2⟩
    have h3 := X.same.trans h2
    rw [List.append_nil] at h3
    exact h3.mono hc hs
  refine ⟨U, ?_, .threw T.heap.size, hrun, hend, Or.inr ⟨T.heap.size, rfl, cls, ce, locs, hx U hWs.alike f1 (fun q hq => f2 q hq (fun z hz => nomatch hz)), hce, hO.vm, hcl, hWs, hall, hf⟩⟩
  refine st1 _ ?_
  show Steps p.tables e below (T1.setTop { method := m, pc := pc + 3, locals := ls, stack := .ref T.heap.size :: rest, locked := none }) _
  jvm_step X₁.here [X₁.here.top, hexec, d3', Value.category]
  exact X₁.ldcStringW hexec (own := own) (text := text) (index := is) (a := sa) hown' hstr'.1 hstr'.2
    (g := { method := m, pc := pc + 4, locals := ls, stack := .ref T.heap.size :: .ref T.heap.size :: rest, locked := none }) rfl d4' _ hsteps
end Ends
section Bodies
variable {l : Launch}
theorem vx_ofW {y : MethodName} {ws ws' : List Cond} {rm : Room} {Pc : Array Value → State → Prop} {Qc : Array Value → State → Outcome → State → Prop} {XC : String → State → State → Prop} {mc ms : Nat} {free : Addr → Prop} {cc : ByteArray} {maxL : Nat} {ret : Option FieldType}
    (hy : plainName y.cls = true) (hw : ws = Cond.code y cc maxL ret :: ws')
    (body : ∀ p e s m args below meth c s₁, BodyLoose p l y (headSpec ws rm) cc maxL ret e s m args below meth c s₁ → c.maxLocals = maxL → (∀ x ∈ c.exceptionTable.toList, False) → Pc args s →
      W p l e (headSpec ws rm).room s m args below meth c s.heap [] 0 0 (vx_MQ below Qc XC args s mc ms free) (entryFrame m args maxL)) : vx_Met l y ws rm Pc Qc XC mc ms free := by
  refine MetFree.of_bodyS (code := cc) (maxLocals := maxL) (ret := ret) hy ?_ ?_
  · intro args s m h hn
    obtain ⟨meth, c, h1, h2, h3, h4, h5, h6, -, -⟩ := Cond.code_spec hn (atoms_spec (ws := ws) h _ (by rw [hw]; exact List.mem_cons_self))
    exact ⟨meth, c, h1, h2, h3, h4, h5, h6⟩
  · intro p e s m args below meth c s₁ B hml hP _
    have hh0 : s₁.heap = s.heap := by rw [B.state]; rfl
    have ht : ∀ x ∈ c.exceptionTable.toList, False := by
      obtain ⟨meth9, c9, h1, h2, -, -, -, -, h7, -⟩ := Cond.code_spec B.named (atoms_spec (ws := ws) B.pre _ (by rw [hw]; exact List.mem_cons_self))
      cases Option.some.inj (h1.symm.trans B.method)
      cases Option.some.inj (h2.symm.trans (Stand.of_body B).code)
      intro x hx
      rw [Array.isEmpty_iff.mp h7] at hx
      cases hx
    obtain ⟨t, a1, o, b1, b2, b3⟩ := body p e s m args below meth c s₁ B hml ht hP s₁ hh0 (Stand.of_body B)
    exact ⟨t, o, a1, b1, b2, b3⟩
/-- the table of a body with handlers -/
theorem vx_table {p : Program} {x y : MethodName} {S : Spec} {cc bytes : ByteArray} {maxL maxL' : Nat} {ret ret' : Option FieldType} {e : Env} {s s₁ : State} {m : MethodId} {args : Array Value} {below : List Frame} {meth : Method} {c : Code} {hh : List (Nat × Nat × Nat × Nat)}
    (B : BodyLoose p l y S cc maxL ret e s m args below meth c s₁) (h : (Cond.codeWith y bytes maxL' ret' hh).before args s = true) : c.exceptionTable.toList = tableOf hh := by
  obtain ⟨m9, meth9, c9, hn9, h1, h2, -, -, h6, -⟩ := Cond.codeWith_spec h
  cases Option.some.inj (hn9.symm.trans B.named)
  cases Option.some.inj (h1.symm.trans B.method)
  cases Option.some.inj (h2.symm.trans (Stand.of_body B).code)
  rw [← h6, table_eq]
end Bodies
end VXA
/-! ===== END ===== -/
/-! ===== BEGIN a static call of a method with an exception table ===== -/
section VXS
variable {p : Program} {l : Launch} {e : Env} {R : Room} {s : State} {m : MethodId} {args : Array Value} {below : List Frame} {meth : Method} {c : Code} {T : State} {H : Heap} {locs : List Loc} {cells slots : Nat}
abbrev vx_CSW (R : Room) (s : State) (args : Array Value) (own : String) (index : Nat) (y : MethodName) (bytes : ByteArray) (maxL : Nat) (ret : Option FieldType) (hh : List (Nat × Nat × Nat × Nat)) (ws : List Cond) (rm : Room) (mc ms n : Nat) : Prop :=
  (rm.cells = mc ∧ rm.slots = ms ∧ rm.frames + 1 ≤ R.frames ∧ 8 + (maxL + 11) + rm.locals ≤ R.locals ∧ (∀ w ∈ ws, ∀ (a' : Array Value) (U : State), s.WarmedH U.vm → w.before a' U = true) ∧ Cond.codeWith y bytes maxL ret hh ∈ ws) ∧
  (Cond.codeWith y bytes maxL ret hh).before args s = true ∧ (Cond.initialized y.cls).before args s = true ∧ (y.cls ≠ "java/lang/invoke/MethodHandle" ∧ y.cls ≠ "java/lang/invoke/VarHandle") ∧
  (∀ sig, parseMethodDescriptor y.desc = some sig → n = sig.parameters.length) ∧ (Cond.methodLink own index y).before args s = true ∧ (Cond.static y).before args s = true
theorem vx_cwSW {own : String} {index maxL mc ms : Nat} {y : MethodName} {bytes : ByteArray} {ret : Option FieldType} {hh : List (Nat × Nat × Nat × Nat)} {Ts ws ws' : List Cond} {rm : Room} (n : Nat) (ht : ∀ w ∈ Ts, w.before args s = true) (hT : GoodIn Ts (va_wsS own index y ws)) (hw : ws = Cond.codeWith y bytes maxL ret hh :: ws') (hrc : rm.cells = mc) (hrs : rm.slots = ms)
    (hd : y.cls ≠ "java/lang/invoke/MethodHandle" ∧ y.cls ≠ "java/lang/invoke/VarHandle" ∧ (parseMethodDescriptor y.desc).map (fun d => d.parameters.length) = some n) (hR : rm.frames + 1 ≤ R.frames ∧ 8 + (maxL + 11) + rm.locals ≤ R.locals) :
    vx_CSW R s args own index y bytes maxL ret hh ws rm mc ms n := by
  have ok : ∀ w ∈ va_wsS own index y ws, w.before args s = true := fun w h => ht w (hT w h).1
  have hG : GoodIn Ts ws := fun w h => hT w (by unfold va_wsS; exact List.mem_append_right _ h)
  have hc : Cond.codeWith y bytes maxL ret hh ∈ ws := by rw [hw]; exact List.mem_cons_self
  refine ⟨⟨hrc, hrs, hR.1, hR.2, pay_in ht hG, hc⟩, ht _ (hG _ hc).1, ok _ (by simp [va_wsS]), ⟨hd.1, hd.2.1⟩, fun sig h => ?_, ok _ (by simp [va_wsS]), ok _ (by simp [va_wsS])⟩
  have h2 := hd.2.2
  rw [h] at h2
  exact (Option.some.inj h2).symm
theorem vx_callSW (X : Stand p l e R s m args below meth c T locs cells slots) (hexec : p.tables.exec = Jvm.exec) {own : String} {index : Nat} {y : MethodName} {bytes : ByteArray} {maxL : Nat} {ret : Option FieldType} {hh : List (Nat × Nat × Nat × Nat)}
    (hown : s.vm.findClass own = some m.cls) (hlink : (Cond.methodLink own index y).before args s = true) (hstat : (Cond.static y).before args s = true) (hinit : (Cond.initialized y.cls).before args s = true)
    (hcode : (Cond.codeWith y bytes maxL ret hh).before args s = true) (hy : y.cls ≠ "java/lang/invoke/MethodHandle" ∧ y.cls ≠ "java/lang/invoke/VarHandle")
    {W9 : Nat} {Pre : Pt → Array Value → Prop} {Post : Pt → Array Value → Option Value → Pt → Prop} (hK : Back l R p e below s args y 3 W9 Pre Post)
    {g : JFrame} (hg : g.method = m) (hsize : g.locals.size = c.maxLocals) {argsL rest : List Value} (hlen : ∀ sig, parseMethodDescriptor y.desc = some sig → argsL.length = sig.parameters.length)
    (hstack : g.stack = argsL.reverse ++ rest) (hW : 2 * g.monitorRoom + (rest.map fun v => v.category).sum ≤ W9) (hdg : decode c.code g.pc = .ok (.invokestatic index, 3))
    (hpre : ∀ vm₁, s.WarmedH vm₁ → Pre ⟨T.setVm vm₁, locs, cells, slots⟩ argsL.toArray) :
    ∃ (v : Option Value) (vm₁ : Vm) (B : Pt), s.WarmedH vm₁ ∧ Stand p l e R s m args below meth c B.U B.locs B.cells B.slots ∧ Post ⟨T.setVm vm₁, locs, cells, slots⟩ argsL.toArray v B ∧
      ∀ target, Steps p.tables e below (B.U.setTop { g with pc := g.pc + 3, stack := v.toList ++ rest }) target → Steps p.tables e below (T.setTop g) target := by
  obtain ⟨mk, methM, cM, hnamed, hmethM, -, -, -, -, -, -, hsigM⟩ := Cond.codeWith_spec hcode
  have hstatic : methM.isStatic = true := Cond.static_spec hnamed hmethM hstat
  obtain ⟨kP, hkP, -⟩ := className_of_methodNamed hnamed
  have hinitP : kP.init = .initialized := Cond.initialized_spec (findClass_of_methodNamed hnamed) hkP hinit
  obtain ⟨vm₁, X₁, hstep₁⟩ := X.invokestatic hexec hown hlink hnamed hmethM hstatic hkP hinitP hy (g := g) hg (argsL := argsL) (rest := rest) (hlen _ hsigM) hstack hdg
  obtain ⟨v, B, X', hpost, hsteps⟩ := hK m meth c ⟨T.setVm vm₁, locs, cells, slots⟩ { g with stack := rest } (.invokestatic index) mk argsL.toArray X₁ hg hsize hdg hW (X₁.named hnamed) (hpre vm₁ X₁.warmed)
  exact ⟨v, vm₁, B, X₁.warmed, X', hpost, fun target h => hstep₁ _ fun acts => by rw [doInvoke_state]; exact hsteps.trans h⟩
theorem vx_runSW {y : MethodName} {bytes cc : ByteArray} {maxL nL mc ms n index : Nat} {ret : Option FieldType} {hh : List (Nat × Nat × Nat × Nat)} {ws : List Cond} {rm : Room} {Pc : Array Value → State → Prop} {Qc : Array Value → State → Outcome → State → Prop} {free : Addr → Prop} {Ts : List Cond} {own : String} {As rest : List Value} {g : JFrame}
    (S : CallFix p m c cc nL s args Ts own) (hM : Met l y ws rm Pc Qc mc ms free) (cw : vx_CSW R s args own index y bytes maxL ret hh ws rm mc ms n) (hp : PreS s H Pc As)
    (hg : g.method = m) (hn : As.length = n) (hsize : g.locals.size = nL) (hstack : g.stack = As.reverse ++ rest) (hW : 2 * g.monitorRoom + (rest.map fun v => v.category).sum ≤ 8) (hdg : decode cc g.pc = .ok (.invokestatic index, 3)) (hf : cells + mc ≤ R.cells ∧ slots + ms ≤ R.slots) :
    va_Run p l e R s m args below meth c H locs cells slots mc ms g rest (Qc As.toArray) (free) := by
  obtain ⟨⟨hrc, hrs, hfr, hlo, hws, hcw⟩, hcode, hini, hy, hlen, hl, hstt⟩ := cw
  have hK : Back l R p e below s args y 3 8 (PreOf R mc ms Pc) (PostOf Qc mc ms free) := va_backW (hh := hh) (bytes := bytes) (maxL := maxL) (ret := ret) hM hp.1 hrc hrs hfr hlo hws hcw (fun a' U hW => word_at hW (Or.inl (by first | rfl | simp [Cond.onTables, Cond.keeps, Cond.steady])) hini)
  obtain ⟨hx, hb, hml, ho, -⟩ := S
  intro T hT X
  obtain ⟨v, vm₁, ⟨U', l2, c2, s2⟩, hW₁, X', ⟨g', mk, t, L, e1, e2, hq, h1, hL, h2, h3⟩, st⟩ := vx_callSW X hx (hh := hh) (bytes := bytes) (maxL := maxL) (ret := ret) ho hl hstt hini hcode hy hK hg (hsize.trans hml.symm) (argsL := As) (rest := rest) (fun sig h => hn.trans (hlen sig h)) hstack hW (by rw [hb]; exact hdg)
    (fun vm₁ hW₁ => ⟨hf.1, hf.2, hp.2 (T.setVm vm₁) hT hW₁⟩)
  dsimp only [Pt.U, Pt.locs, Pt.cells, Pt.slots] at X' e1 e2 h1 h2 h3 st
  subst h1; subst h2; subst h3
  exact ⟨v, (T.setVm vm₁).calling g' mk As.toArray, t, U', L, hT, X', hL, e1, e2, hq, st⟩
/-- not caught here, past rows that name other classes: it goes on to the caller -/
theorem vx_outP {p : Program} {l : Launch} {e : Env} {R : Room} {s : State} {m : MethodId} {args : Array Value} {below : List Frame} {meth : Method} {c : Code} {H : Heap} {locs : List Loc} {cells slots : Nat} {free : Addr → Prop} {ls : Array Slot} {rest : List Value} {Qc : Array Value → State → Outcome → State → Prop} {XC : String → State → State → Prop}
    {pc : Nat} {own E : String} {ce : Cell} {q : Addr} {mc ms : Nat} (hown : s.vm.findClass own = some m.cls) (hlocks : meth.locks = false)
    (hpass : ∀ z ∈ c.exceptionTable.toList, covers z pc = false ∨ (z.catchType ≠ 0 ∧ ∃ nm : String, (Cond.classLink own z.catchType nm).before args s = true ∧ va_Nc E nm s)) (hcell : H[q]? = some ce) (hv : ce.vm = .none) (hcl : s.vm.findClass E = some ce.cls)
    (hx : ∀ t : State, t.heap = H → s.vm.Alike t.vm → XC E s t) (hf : ∀ z ∈ locs, free z.base) (hc : cells ≤ mc) (hs : slots ≤ ms) :
    vx_W p l e R s m args below meth c H locs cells slots (vx_MQ below Qc XC args s mc ms free) (F0 m pc ls rest) q := by
  intro T hT X
  have hpl : e.platform.magicAccessors = ({} : Platform).magicAccessors := by rw [X.admits.platform]
  obtain ⟨vm', hW', X', st⟩ := X.outThrough hlocks q (g := F0 m pc ls rest) rfl rfl rfl (cell := ce) (by rw [hT]; exact hcell) (by rw [hv]; rfl)
    (by obtain ⟨k9, h9, -⟩ := Vm.findClass_spec hcl; exact ⟨k9, h9⟩) (fun z hz => by
      rcases hpass z hz with h | ⟨hz0, nm, hl1, hn1⟩
      · exact Or.inl h
      · obtain ⟨c6, hc6, hcl6⟩ := Cond.classLink_spec hown hl1 e.platform hpl
        obtain ⟨a8, b8, h1, h2, h3⟩ := hn1
        cases Option.some.inj (h1.symm.trans hcl)
        cases Option.some.inj (h2.symm.trans hc6)
        exact Or.inr ⟨hz0, _, hcl6, h3⟩)
  obtain ⟨g₀, hfr⟩ := X'.frames_eq
  have hcell9 : ((T.setVm vm').setFrames (.throwing q :: below)).heap[q]? = some ce := by
    show T.heap[q]? = some ce
    rw [hT]; exact hcell
  have hend : Ended ((T.setVm vm').setFrames (.throwing q :: below)) below (.threw q) := State.frames_setFrames _ (State.cur_lt_of_frames hfr)
  refine ⟨(T.setVm vm').setFrames (.throwing q :: below), ?_, .threw q, X'.here.running, hend, Or.inr ⟨q, rfl, E, ce, locs, hx _ hT (X'.ends _).1.alike, hcell9, hv, hcl, (X'.ends _).1, (X'.ends _).2.mono hc hs, hf⟩⟩
  rw [X.pushThrowing_eq]
  exact st
/-- a thing of a world lies in the heap -/
theorem vx_lt {D : va_G} {cl : List vw_C} {ws : va_W} {H1 : Heap} (h : va_P D cl ws H1) {k : Nat} {q : Nat × va_E} (hk : ws[k]? = some q) : q.1 < H1.size := (h k q hk).lt
end VXS
/-! ===== END ===== -/
/-! ===== BEGIN methods with a table of their own: called by a name, returning or throwing ===== -/
section VXH
/-! vx_backW, vx_callVX, vx_callSX, vx_callVW, vx_runVW, vx_runVX, vx_runSX, vx_ofWH follow the same proofs as their sisters above (Free/Laws.lean, Shelf42/LK1.lean); vx_outP calls Shelf42/NT130.lean (outThrough). -/
section
variable {l : Launch} {R : Room} {p : Program} {e : Env} {below : List Frame} {s : State} {sargs : Array Value} {y : MethodName} {len W9 : Nat}
theorem vx_backW {ws : List Cond} {rm : Room} {Pc : Array Value → State → Prop} {Qc : Array Value → State → Outcome → State → Prop} {XC : String → State → State → Prop} {mc ms : Nat} {free : Addr → Prop} {bytes : ByteArray} {maxL : Nat} {ret : Option FieldType} {hh : List (Nat × Nat × Nat × Nat)}
    (hM : vx_Met l y ws rm Pc Qc XC mc ms free) (hblind : FrameBlind Pc) (hrc : rm.cells = mc) (hrs : rm.slots = ms)
    (hframes : rm.frames + 1 ≤ R.frames) (hlocals : W9 + (maxL + 11) + rm.locals ≤ R.locals)
    (hws : ∀ w ∈ ws, ∀ a' U, s.WarmedH U.vm → w.before a' U = true) (hcode : Cond.codeWith y bytes maxL ret hh ∈ ws) (hinit : ∀ a' U, s.WarmedH U.vm → (Cond.initialized y.cls).before a' U = true) :
    vx_Back l R p e below s sargs y len W9 (PreOf R mc ms Pc) (PostOf Qc mc ms free) (vx_Post XC mc ms free) := by
  intro m meth c A g ig mk a X hg hsize hdg hW hn hp
  have h1 : (headSpec ws rm).pre.before a A.U = true := atoms_intro fun w hw => hws w hw _ _ X.warmed
  have h2 : (Cond.codeWith y bytes maxL ret hh).before a A.U = true := hws _ hcode _ _ X.warmed
  have h3 : (Cond.initialized y.cls).before a A.U = true := hinit _ _ X.warmed
  have h4 : A.cells + (headSpec ws rm).room.cells ≤ R.cells := by rw [show (headSpec ws rm).room.cells = mc from hrc]; exact hp.1
  have h5 : A.slots + (headSpec ws rm).room.slots ≤ R.slots := by rw [show (headSpec ws rm).room.slots = ms from hrs]; exact hp.2.1
  have hPc : Pc a (A.U.calling g mk a) := hblind _ _ _ _ hp.2.2
  obtain ⟨U, Ls, c0, s0⟩ := A
  dsimp only [Pt.U, Pt.locs, Pt.cells, Pt.slots] at h1 h2 h3 h4 h5 X hn hPc ⊢
  obtain ⟨m9, methY, cY, hn9, hmY, hcY, -, hlY, -⟩ := Cond.codeWith_spec h2
  cases Option.some.inj (hn9.symm.trans hn)
  obtain ⟨kY, hkY, -⟩ := className_of_methodNamed hn
  have hinitY : kY.init = .initialized := Cond.initialized_spec (findClass_of_methodNamed hn) hkY h3
  have h : At U g.method c below := by rw [hg]; exact X.here
  have hlocals9 : W9 + (maxL + 11) + (headSpec ws rm).room.locals ≤ R.locals := hlocals
  have happ : (headSpec ws rm).appliesLoose y e.platform (U.calling g mk a) = true :=
    Spec.appliesLoose_calling (g := g) h hdg hn hkY hinitY
      (X.room_calling (g := g) (R' := (headSpec ws rm).room) hsize hmY hcY hframes (by rw [hlY]; omega) h4 h5) h1
  obtain ⟨mid, hmid⟩ := h.above
  have hfr : (U.setTop g).frames = (.java g :: mid) ++ below := by rw [State.frames_setTop' g h.top, hmid]; rfl
  obtain ⟨o, s₂, hsteps, -, hend, hq⟩ := Steps.callFree hM p X.admits X.cas X.clock (acts := []) hfr happ hPc trivial
  have hq' : vx_Q Qc XC mc ms free a (U.calling g mk a) o s₂ := hq
  rw [State.frames_setTop' g h.top] at hend
  obtain ⟨g₀, hg0⟩ := Option.isSome_iff_exists.mp h.top
  obtain ⟨r, hr⟩ := State.topJava?_eq_some.mp hg0
  have hr' : (({ U with heap := s₂.heap, slotsUsed := s₂.slotsUsed } : State).setVm s₂.vm).frames = .java g₀ :: r := hr
  rcases hq' with ⟨hqc, L, hfe, hL⟩ | ⟨q, rfl, E, ce, L, hx, hce, hcv, hcl, hW₂, hsm, hL⟩
  · obtain ⟨⟨v, rfl⟩, hW₂, e2, q2, q3, q4, q5, q6⟩ := id hfe
    have e3 : s₂ = ({ (U.calling g mk a).setFrames s₂.frames with heap := s₂.heap, slotsUsed := s₂.slotsUsed } : State).setVm s₂.vm := by
      have : s₂ = ({ s₂ with vm := (U.calling g mk a).vm } : State).setVm s₂.vm := rfl
      rw [e2] at this
      exact this
    obtain ⟨c₂, i₂, len₂, hc₂, hd₂, hf₂⟩ := hend
    have hW' : U.WarmedH s₂.vm := hW₂
    have hcc : c₂ = c := by
      have h1 : s₂.code? g.method = U.code? g.method := by
        rw [State.code?_eq, State.code?_eq, hW'.alike.method?]
      exact Option.some.inj (hc₂.symm.trans (h1.trans h.code))
    subst hcc
    have hlen : len₂ = len := by rw [hdg] at hd₂; cases hd₂; rfl
    subst hlen
    have hs₂ : s₂ = (({ U with heap := s₂.heap, slotsUsed := s₂.slotsUsed } : State).setVm s₂.vm).setTop { g with pc := g.pc + len₂, stack := v.toList ++ g.stack } := by
      refine e3.trans ?_
      rw [hf₂, State.calling_eq h.top, State.setFrames_setFrames, State.setTop_of_frames _ hr', hr]
      rfl
    have hsame : U.sameButNew ({ U with heap := s₂.heap, slotsUsed := s₂.slotsUsed } : State) L mc ms := by
      refine ⟨?_, q2, q3, q4, q5, q6⟩
      obtain ⟨t, ht, -⟩ := State.frames_cons hr
      show ({ U with heap := s₂.heap, slotsUsed := s₂.slotsUsed } : State) = { U.setFrames U.frames with heap := s₂.heap, slotsUsed := s₂.slotsUsed }
      rw [State.setFrames_self ht]
    subst hg
    refine Or.inl ⟨v, ⟨(({ U with heap := s₂.heap, slotsUsed := s₂.slotsUsed } : State).setVm s₂.vm), Ls ++ L, c0 + mc, s0 + ms⟩,
      ⟨X.admits, X.cas, X.clock, X.frames, X.room, X.hears, X.method, X.code, (X.here.setHeapUsed s₂.heap s₂.slotsUsed).setVm hW'.alike, X.tail, State.WarmedH.trans X.warmed hW', X.limits, X.bytes, X.same.trans (hsame.setVm s.vm)⟩,
      ⟨g, mk, s₂, L, rfl, rfl, hqc, rfl, hL, rfl, rfl⟩, ?_⟩
    show Steps p.tables e below _ ((({ U with heap := s₂.heap, slotsUsed := s₂.slotsUsed } : State).setVm s₂.vm).setTop { g with pc := g.pc + len₂, stack := v.toList ++ g.stack })
    rw [← hs₂]
    exact hsteps
  · obtain ⟨e2, q2, q3, q4, q5, q6⟩ := id hsm
    have e3 : s₂ = ({ (U.calling g mk a).setFrames s₂.frames with heap := s₂.heap, slotsUsed := s₂.slotsUsed } : State).setVm s₂.vm := by
      have : s₂ = ({ s₂ with vm := (U.calling g mk a).vm } : State).setVm s₂.vm := rfl
      rw [e2] at this
      exact this
    have hf₂ : s₂.frames = .throwing q :: .java g :: U.frames.tail := hend
    have hW' : U.WarmedH s₂.vm := hW₂
    have hs₂ : s₂ = ((({ U with heap := s₂.heap, slotsUsed := s₂.slotsUsed } : State).setVm s₂.vm).setTop g).pushFrame (.throwing q) := by
      refine e3.trans ?_
      rw [hf₂, State.calling_eq h.top, State.setFrames_setFrames, State.pushFrame, State.frames_setTop _ hr', State.setTop_of_frames _ hr', State.setFrames_setFrames, hr]
      rfl
    have hsame : U.sameButNew ({ U with heap := s₂.heap, slotsUsed := s₂.slotsUsed } : State) L mc ms := by
      refine ⟨?_, q2, q3, q4, q5, q6⟩
      obtain ⟨t, ht, -⟩ := State.frames_cons hr
      show ({ U with heap := s₂.heap, slotsUsed := s₂.slotsUsed } : State) = { U.setFrames U.frames with heap := s₂.heap, slotsUsed := s₂.slotsUsed }
      rw [State.setFrames_self ht]
    subst hg
    refine Or.inr ⟨q, ⟨(({ U with heap := s₂.heap, slotsUsed := s₂.slotsUsed } : State).setVm s₂.vm), Ls ++ L, c0 + mc, s0 + ms⟩,
      ⟨X.admits, X.cas, X.clock, X.frames, X.room, X.hears, X.method, X.code, (X.here.setHeapUsed s₂.heap s₂.slotsUsed).setVm hW'.alike, X.tail, State.WarmedH.trans X.warmed hW', X.limits, X.bytes, X.same.trans (hsame.setVm s.vm)⟩,
      ⟨g, mk, s₂, L, E, ce, rfl, rfl, hx, hce, hcv, hcl, rfl, hL, rfl, rfl⟩, ?_⟩
    show Steps p.tables e below _ (((({ U with heap := s₂.heap, slotsUsed := s₂.slotsUsed } : State).setVm s₂.vm).setTop g).pushFrame (.throwing q))
    rw [← hs₂]
    exact hsteps
end
variable {p : Program} {l : Launch} {e : Env} {R : Room} {s : State} {m : MethodId} {args : Array Value} {below : List Frame} {meth : Method} {c : Code} {T : State} {H : Heap} {locs : List Loc} {cells slots : Nat}
theorem vx_callVX (X : Stand p l e R s m args below meth c T locs cells slots) (hexec : p.tables.exec = Jvm.exec) {own C : String} {index : Nat} {y : MethodName} {bytes : ByteArray} {maxL : Nat} {ret : Option FieldType} {hh : List (Nat × Nat × Nat × Nat)}
    (hown : s.vm.findClass own = some m.cls) (hlink : (Cond.methodLink own index y).before args s = true) (hinst : (Cond.instanceMethod y).before args s = true) (hsel : (Cond.selects C y y).before args s = true)
    (hcode : (Cond.codeWith y bytes maxL ret hh).before args s = true) (hy : y.cls ≠ "java/lang/invoke/MethodHandle" ∧ y.cls ≠ "java/lang/invoke/VarHandle")
    {W9 : Nat} {Pre : Pt → Array Value → Prop} {Post : Pt → Array Value → Option Value → Pt → Prop} {PostX : Pt → Array Value → Addr → Pt → Prop} (hK : vx_Back l R p e below s args y 3 W9 Pre Post PostX)
    {b : Addr} {cellB : Cell} (hcell : T.heap[b]? = some cellB) (hobj : cellB.vm.isStatics = false) (hcls : s.vm.findClass C = some cellB.cls)
    {g : JFrame} (hg : g.method = m) (hsize : g.locals.size = c.maxLocals) {argsL rest : List Value} (hlen : ∀ sig, parseMethodDescriptor y.desc = some sig → argsL.length = sig.parameters.length)
    (hstack : g.stack = argsL.reverse ++ .ref b :: rest) (hW : 2 * g.monitorRoom + (rest.map fun v => v.category).sum ≤ W9) (hdg : decode c.code g.pc = .ok (.invokevirtual index, 3))
    (hpre : ∀ vm₁, s.WarmedH vm₁ → Pre ⟨T.setVm vm₁, locs, cells, slots⟩ (Value.ref b :: argsL).toArray) :
    (∃ (v : Option Value) (vm₁ : Vm) (B : Pt), s.WarmedH vm₁ ∧ Stand p l e R s m args below meth c B.U B.locs B.cells B.slots ∧ Post ⟨T.setVm vm₁, locs, cells, slots⟩ (Value.ref b :: argsL).toArray v B ∧
      ∀ target, Steps p.tables e below (B.U.setTop { g with pc := g.pc + 3, stack := v.toList ++ rest }) target → Steps p.tables e below (T.setTop g) target) ∨
    (∃ (q : Addr) (vm₁ : Vm) (B : Pt), s.WarmedH vm₁ ∧ Stand p l e R s m args below meth c B.U B.locs B.cells B.slots ∧ PostX ⟨T.setVm vm₁, locs, cells, slots⟩ (Value.ref b :: argsL).toArray q B ∧
      Steps p.tables e below (T.setTop g) ((B.U.setTop { g with stack := rest }).pushFrame (.throwing q))) := by
  obtain ⟨mk, methM, hnamed, hmethM, hstM, habM⟩ := Cond.instanceMethod_spec hinst
  obtain ⟨m8, methM', cM, hn8, hmethM', -, -, -, -, -, -, hsigM⟩ := Cond.codeWith_spec hcode
  cases Option.some.inj (hn8.symm.trans hnamed)
  cases hmethM.symm.trans hmethM'
  obtain ⟨c2, r2, m2, q1, q2, q3, q4, kP, hkP, hkPi⟩ := Cond.selects_spec hsel
  cases hcls.symm.trans q1
  cases (State.methodFound?_of_named hnamed hy).symm.trans q2
  cases hnamed.symm.trans q3
  have hselP : selectMethod e.platform s.vm cellB.cls mk = .method mk := by rw [Launch.admits_selectMethod X.admits]; exact q4
  obtain ⟨vm₁, X₁, hstep₁⟩ := X.invokevirtual hexec hown hlink hnamed hmethM hstM hkP hkPi hy (a := b) (cell := cellB) hcell
    (fun z h => by rw [h] at hobj; cases hobj) hselP hmethM habM hkP hkPi (g := g) hg (argsL := argsL) (rest := rest) (hlen _ hsigM) hstack hdg
  rcases hK m meth c ⟨T.setVm vm₁, locs, cells, slots⟩ { g with stack := rest } (.invokevirtual index) mk (Value.ref b :: argsL).toArray X₁ hg hsize hdg hW (X₁.named hnamed) (hpre vm₁ X₁.warmed) with ⟨v, B, X', hpost, hsteps⟩ | ⟨q, B, X', hpost, hsteps⟩
  · exact Or.inl ⟨v, vm₁, B, X₁.warmed, X', hpost, fun target h => hstep₁ _ fun acts => by rw [doInvoke_state]; exact hsteps.trans h⟩
  · exact Or.inr ⟨q, vm₁, B, X₁.warmed, X', hpost, hstep₁ _ fun acts => by rw [doInvoke_state]; exact hsteps⟩
theorem vx_callSX (X : Stand p l e R s m args below meth c T locs cells slots) (hexec : p.tables.exec = Jvm.exec) {own : String} {index : Nat} {y : MethodName} {bytes : ByteArray} {maxL : Nat} {ret : Option FieldType} {hh : List (Nat × Nat × Nat × Nat)}
    (hown : s.vm.findClass own = some m.cls) (hlink : (Cond.methodLink own index y).before args s = true) (hstat : (Cond.static y).before args s = true) (hinit : (Cond.initialized y.cls).before args s = true)
    (hcode : (Cond.codeWith y bytes maxL ret hh).before args s = true) (hy : y.cls ≠ "java/lang/invoke/MethodHandle" ∧ y.cls ≠ "java/lang/invoke/VarHandle")
    {W9 : Nat} {Pre : Pt → Array Value → Prop} {Post : Pt → Array Value → Option Value → Pt → Prop} {PostX : Pt → Array Value → Addr → Pt → Prop} (hK : vx_Back l R p e below s args y 3 W9 Pre Post PostX)
    {g : JFrame} (hg : g.method = m) (hsize : g.locals.size = c.maxLocals) {argsL rest : List Value} (hlen : ∀ sig, parseMethodDescriptor y.desc = some sig → argsL.length = sig.parameters.length)
    (hstack : g.stack = argsL.reverse ++ rest) (hW : 2 * g.monitorRoom + (rest.map fun v => v.category).sum ≤ W9) (hdg : decode c.code g.pc = .ok (.invokestatic index, 3))
    (hpre : ∀ vm₁, s.WarmedH vm₁ → Pre ⟨T.setVm vm₁, locs, cells, slots⟩ argsL.toArray) :
    (∃ (v : Option Value) (vm₁ : Vm) (B : Pt), s.WarmedH vm₁ ∧ Stand p l e R s m args below meth c B.U B.locs B.cells B.slots ∧ Post ⟨T.setVm vm₁, locs, cells, slots⟩ argsL.toArray v B ∧
      ∀ target, Steps p.tables e below (B.U.setTop { g with pc := g.pc + 3, stack := v.toList ++ rest }) target → Steps p.tables e below (T.setTop g) target) ∨
    (∃ (q : Addr) (vm₁ : Vm) (B : Pt), s.WarmedH vm₁ ∧ Stand p l e R s m args below meth c B.U B.locs B.cells B.slots ∧ PostX ⟨T.setVm vm₁, locs, cells, slots⟩ argsL.toArray q B ∧
      Steps p.tables e below (T.setTop g) ((B.U.setTop { g with stack := rest }).pushFrame (.throwing q))) := by
  obtain ⟨mk, methM, cM, hnamed, hmethM, -, -, -, -, -, -, hsigM⟩ := Cond.codeWith_spec hcode
  have hstatic : methM.isStatic = true := Cond.static_spec hnamed hmethM hstat
  obtain ⟨kP, hkP, -⟩ := className_of_methodNamed hnamed
  have hinitP : kP.init = .initialized := Cond.initialized_spec (findClass_of_methodNamed hnamed) hkP hinit
  obtain ⟨vm₁, X₁, hstep₁⟩ := X.invokestatic hexec hown hlink hnamed hmethM hstatic hkP hinitP hy (g := g) hg (argsL := argsL) (rest := rest) (hlen _ hsigM) hstack hdg
  rcases hK m meth c ⟨T.setVm vm₁, locs, cells, slots⟩ { g with stack := rest } (.invokestatic index) mk argsL.toArray X₁ hg hsize hdg hW (X₁.named hnamed) (hpre vm₁ X₁.warmed) with ⟨v, B, X', hpost, hsteps⟩ | ⟨q, B, X', hpost, hsteps⟩
  · exact Or.inl ⟨v, vm₁, B, X₁.warmed, X', hpost, fun target h => hstep₁ _ fun acts => by rw [doInvoke_state]; exact hsteps.trans h⟩
  · exact Or.inr ⟨q, vm₁, B, X₁.warmed, X', hpost, hstep₁ _ fun acts => by rw [doInvoke_state]; exact hsteps⟩
theorem vx_callVW (X : Stand p l e R s m args below meth c T locs cells slots) (hexec : p.tables.exec = Jvm.exec) {own C : String} {index : Nat} {y : MethodName} {bytes : ByteArray} {maxL : Nat} {ret : Option FieldType} {hh : List (Nat × Nat × Nat × Nat)}
    (hown : s.vm.findClass own = some m.cls) (hlink : (Cond.methodLink own index y).before args s = true) (hinst : (Cond.instanceMethod y).before args s = true) (hsel : (Cond.selects C y y).before args s = true)
    (hcode : (Cond.codeWith y bytes maxL ret hh).before args s = true) (hy : y.cls ≠ "java/lang/invoke/MethodHandle" ∧ y.cls ≠ "java/lang/invoke/VarHandle")
    {W9 : Nat} {Pre : Pt → Array Value → Prop} {Post : Pt → Array Value → Option Value → Pt → Prop} (hK : Back l R p e below s args y 3 W9 Pre Post)
    {b : Addr} {cellB : Cell} (hcell : T.heap[b]? = some cellB) (hobj : cellB.vm.isStatics = false) (hcls : s.vm.findClass C = some cellB.cls)
    {g : JFrame} (hg : g.method = m) (hsize : g.locals.size = c.maxLocals) {argsL rest : List Value} (hlen : ∀ sig, parseMethodDescriptor y.desc = some sig → argsL.length = sig.parameters.length)
    (hstack : g.stack = argsL.reverse ++ .ref b :: rest) (hW : 2 * g.monitorRoom + (rest.map fun v => v.category).sum ≤ W9) (hdg : decode c.code g.pc = .ok (.invokevirtual index, 3))
    (hpre : ∀ vm₁, s.WarmedH vm₁ → Pre ⟨T.setVm vm₁, locs, cells, slots⟩ (Value.ref b :: argsL).toArray) :
    ∃ (v : Option Value) (vm₁ : Vm) (B : Pt), s.WarmedH vm₁ ∧ Stand p l e R s m args below meth c B.U B.locs B.cells B.slots ∧ Post ⟨T.setVm vm₁, locs, cells, slots⟩ (Value.ref b :: argsL).toArray v B ∧
      ∀ target, Steps p.tables e below (B.U.setTop { g with pc := g.pc + 3, stack := v.toList ++ rest }) target → Steps p.tables e below (T.setTop g) target := by
  obtain ⟨mk, methM, hnamed, hmethM, hstM, habM⟩ := Cond.instanceMethod_spec hinst
  obtain ⟨m8, methM', cM, hn8, hmethM', -, -, -, -, -, -, hsigM⟩ := Cond.codeWith_spec hcode
  cases Option.some.inj (hn8.symm.trans hnamed)
  cases hmethM.symm.trans hmethM'
  obtain ⟨c2, r2, m2, q1, q2, q3, q4, kP, hkP, hkPi⟩ := Cond.selects_spec hsel
  cases hcls.symm.trans q1
  cases (State.methodFound?_of_named hnamed hy).symm.trans q2
  cases hnamed.symm.trans q3
  have hselP : selectMethod e.platform s.vm cellB.cls mk = .method mk := by rw [Launch.admits_selectMethod X.admits]; exact q4
  obtain ⟨vm₁, X₁, hstep₁⟩ := X.invokevirtual hexec hown hlink hnamed hmethM hstM hkP hkPi hy (a := b) (cell := cellB) hcell
    (fun z h => by rw [h] at hobj; cases hobj) hselP hmethM habM hkP hkPi (g := g) hg (argsL := argsL) (rest := rest) (hlen _ hsigM) hstack hdg
  obtain ⟨v, B, X', hpost, hsteps⟩ := hK m meth c ⟨T.setVm vm₁, locs, cells, slots⟩ { g with stack := rest } (.invokevirtual index) mk (Value.ref b :: argsL).toArray X₁ hg hsize hdg hW (X₁.named hnamed) (hpre vm₁ X₁.warmed)
  exact ⟨v, vm₁, B, X₁.warmed, X', hpost, fun target h => hstep₁ _ fun acts => by rw [doInvoke_state]; exact hsteps.trans h⟩
abbrev vx_CVW (R : Room) (s : State) (args : Array Value) (own C : String) (index : Nat) (y : MethodName) (bytes : ByteArray) (maxL : Nat) (ret : Option FieldType) (hh : List (Nat × Nat × Nat × Nat)) (ws : List Cond) (rm : Room) (mc ms n : Nat) : Prop :=
  (rm.cells = mc ∧ rm.slots = ms ∧ rm.frames + 1 ≤ R.frames ∧ 8 + (maxL + 11) + rm.locals ≤ R.locals ∧ (∀ w ∈ ws, ∀ (a' : Array Value) (U : State), s.WarmedH U.vm → w.before a' U = true) ∧ Cond.codeWith y bytes maxL ret hh ∈ ws) ∧
  (Cond.codeWith y bytes maxL ret hh).before args s = true ∧ (Cond.initialized y.cls).before args s = true ∧ (y.cls ≠ "java/lang/invoke/MethodHandle" ∧ y.cls ≠ "java/lang/invoke/VarHandle") ∧
  (∀ sig, parseMethodDescriptor y.desc = some sig → n = sig.parameters.length) ∧ (Cond.methodLink own index y).before args s = true ∧ (Cond.instanceMethod y).before args s = true ∧ (Cond.selects C y y).before args s = true
theorem vx_cwVW {own C : String} {index maxL mc ms : Nat} {y : MethodName} {bytes : ByteArray} {ret : Option FieldType} {hh : List (Nat × Nat × Nat × Nat)} {Ts ws ws' : List Cond} {rm : Room} (n : Nat) (ht : ∀ w ∈ Ts, w.before args s = true) (hT : GoodIn Ts (wsV own index C y ws)) (hw : ws = Cond.codeWith y bytes maxL ret hh :: ws') (hrc : rm.cells = mc) (hrs : rm.slots = ms)
    (hd : y.cls = C ∧ y.cls ≠ "java/lang/invoke/MethodHandle" ∧ y.cls ≠ "java/lang/invoke/VarHandle" ∧ (parseMethodDescriptor y.desc).map (fun d => d.parameters.length) = some n) (hR : rm.frames + 1 ≤ R.frames ∧ 8 + (maxL + 11) + rm.locals ≤ R.locals) :
    vx_CVW R s args own C index y bytes maxL ret hh ws rm mc ms n := by
  obtain ⟨hC, hd⟩ := hd
  subst hC
  have ok : ∀ w ∈ wsV own index y.cls y ws, w.before args s = true := fun w h => ht w (hT w h).1
  have hG : GoodIn Ts ws := fun w h => hT w (by unfold wsV; exact List.mem_append_right _ h)
  have hc : Cond.codeWith y bytes maxL ret hh ∈ ws := by rw [hw]; exact List.mem_cons_self
  refine ⟨⟨hrc, hrs, hR.1, hR.2, pay_in ht hG, hc⟩, ht _ (hG _ hc).1, ok _ (by simp [wsV]), ⟨hd.1, hd.2.1⟩, fun sig h => ?_, ok _ (by simp [wsV]), ok _ (by simp [wsV]), ok _ (by simp [wsV])⟩
  have h2 := hd.2.2
  rw [h] at h2
  exact (Option.some.inj h2).symm
theorem vx_runVW {y : MethodName} {bytes cc : ByteArray} {maxL nL mc ms n index : Nat} {ret : Option FieldType} {hh : List (Nat × Nat × Nat × Nat)} {ws : List Cond} {rm : Room} {Pc : Array Value → State → Prop} {Qc : Array Value → State → Outcome → State → Prop} {free : Addr → Prop} {Ts : List Cond} {own C : String} {b : Addr} {As rest : List Value} {g : JFrame}
    (S : CallFix p m c cc nL s args Ts own) (hM : Met l y ws rm Pc Qc mc ms free) (cw : vx_CVW R s args own C index y bytes maxL ret hh ws rm mc ms n) (hp : PreV s H C b Pc As)
    (hg : g.method = m) (hn : As.length = n) (hsize : g.locals.size = nL) (hstack : g.stack = As.reverse ++ .ref b :: rest) (hW : 2 * g.monitorRoom + (rest.map fun v => v.category).sum ≤ 8) (hdg : decode cc g.pc = .ok (.invokevirtual index, 3)) (hf : cells + mc ≤ R.cells ∧ slots + ms ≤ R.slots) :
    va_Run p l e R s m args below meth c H locs cells slots mc ms g rest (Qc (Value.ref b :: As).toArray) free := by
  obtain ⟨⟨hrc, hrs, hfr, hlo, hws, hcw⟩, hcode, hini, hy, hlen, hl, hin, hse⟩ := cw
  have hK : Back l R p e below s args y 3 8 (PreOf R mc ms Pc) (PostOf Qc mc ms free) := va_backW (hh := hh) (bytes := bytes) (maxL := maxL) (ret := ret) hM hp.1 hrc hrs hfr hlo hws hcw (fun a' U hW => word_at hW (Or.inl (by first | rfl | simp [Cond.onTables, Cond.keeps, Cond.steady])) hini)
  obtain ⟨hx, hb, hml, ho, -⟩ := S
  obtain ⟨-, ⟨cellB, hcB, hoB, hclB⟩, hPc⟩ := hp
  intro T hT X
  obtain ⟨v, vm₁, ⟨U', l2, c2, s2⟩, hW₁, X', ⟨g', mk, t, L, e1, e2, hq, h1, hL, h2, h3⟩, st⟩ := vx_callVW X hx (C := C) (hh := hh) (bytes := bytes) (maxL := maxL) (ret := ret) ho hl hin hse hcode hy hK (by rw [hT]; exact hcB) hoB hclB hg (hsize.trans hml.symm) (argsL := As) (rest := rest) (fun sig h => hn.trans (hlen sig h)) hstack hW (by rw [hb]; exact hdg)
    (fun vm₁ hW₁ => ⟨hf.1, hf.2, hPc (T.setVm vm₁) hT hW₁⟩)
  dsimp only [Pt.U, Pt.locs, Pt.cells, Pt.slots] at X' e1 e2 h1 h2 h3 st
  subst h1; subst h2; subst h3
  exact ⟨v, (T.setVm vm₁).calling g' mk (Value.ref b :: As).toArray, t, U', L, hT, X', hL, e1, e2, hq, st⟩
section
variable {y : MethodName} {bytes cc : ByteArray} {maxL nL mc ms n index : Nat} {ret : Option FieldType} {ws : List Cond} {rm : Room} {Pc : Array Value → State → Prop} {Qc : Array Value → State → Outcome → State → Prop} {XC : String → State → State → Prop} {free : Addr → Prop} {Ts : List Cond} {own C : String} {b : Addr} {As rest : List Value} {g : JFrame}
theorem vx_runVX {hh : List (Nat × Nat × Nat × Nat)} (S : CallFix p m c cc nL s args Ts own) (hM : vx_Met l y ws rm Pc Qc XC mc ms free) (cw : vx_CVW R s args own C index y bytes maxL ret hh ws rm mc ms n) (hp : PreV s H C b Pc As)
    (hg : g.method = m) (hn : As.length = n) (hsize : g.locals.size = nL) (hstack : g.stack = As.reverse ++ .ref b :: rest) (hW : 2 * g.monitorRoom + (rest.map fun v => v.category).sum ≤ 8) (hdg : decode cc g.pc = .ok (.invokevirtual index, 3)) (hf : cells + mc ≤ R.cells ∧ slots + ms ≤ R.slots) :
    vx_Run p l e R s m args below meth c H locs cells slots mc ms g rest (Qc (Value.ref b :: As).toArray) XC free := by
  obtain ⟨⟨hrc, hrs, hfr, hlo, hws, hcw⟩, hcode, hini, hy, hlen, hl, hin, hse⟩ := cw
  have hK : vx_Back l R p e below s args y 3 8 (PreOf R mc ms Pc) (PostOf Qc mc ms free) (vx_Post XC mc ms free) := vx_backW (hh := hh) (bytes := bytes) (maxL := maxL) (ret := ret) hM hp.1 hrc hrs hfr hlo hws hcw (fun a' U hW => word_at hW (Or.inl (by first | rfl | simp [Cond.onTables, Cond.keeps, Cond.steady])) hini)
  obtain ⟨hx, hb, hml, ho, -⟩ := S
  obtain ⟨-, ⟨cellB, hcB, hoB, hclB⟩, hPc⟩ := hp
  intro T hT X
  rcases vx_callVX X hx (C := C) (hh := hh) (bytes := bytes) (maxL := maxL) (ret := ret) ho hl hin hse hcode hy hK (by rw [hT]; exact hcB) hoB hclB hg (hsize.trans hml.symm) (argsL := As) (rest := rest) (fun sig h => hn.trans (hlen sig h)) hstack hW (by rw [hb]; exact hdg)
    (fun vm₁ hW₁ => ⟨hf.1, hf.2, hPc (T.setVm vm₁) hT hW₁⟩) with ⟨v, vm₁, ⟨U', l2, c2, s2⟩, hW₁, X', ⟨g', mk, t, L, e1, e2, hq, h1, hL, h2, h3⟩, st⟩ | ⟨q, vm₁, ⟨U', l2, c2, s2⟩, hW₁, X', ⟨g', mk, t, L, E, ce, e1, e2, hq, hce, hcv, hcl, h1, hL, h2, h3⟩, st⟩
  · dsimp only [Pt.U, Pt.locs, Pt.cells, Pt.slots] at X' e1 e2 h1 h2 h3 st
    subst h1; subst h2; subst h3
    exact Or.inl ⟨v, (T.setVm vm₁).calling g' mk (Value.ref b :: As).toArray, t, U', L, hT, X', hL, e1, e2, hq, st⟩
  · dsimp only [Pt.U, Pt.locs, Pt.cells, Pt.slots] at X' e1 e2 h1 h2 h3 st hcl
    subst h1; subst h2; subst h3
    exact Or.inr ⟨q, (T.setVm vm₁).calling g' mk (Value.ref b :: As).toArray, t, U', L, E, ce, hT, X', hL, e1, e2, hq, hce, hcv, vx_cls hW₁ hcl, st⟩
theorem vx_runSX {hh : List (Nat × Nat × Nat × Nat)} (S : CallFix p m c cc nL s args Ts own) (hM : vx_Met l y ws rm Pc Qc XC mc ms free) (cw : vx_CSW R s args own index y bytes maxL ret hh ws rm mc ms n) (hp : PreS s H Pc As)
    (hg : g.method = m) (hn : As.length = n) (hsize : g.locals.size = nL) (hstack : g.stack = As.reverse ++ rest) (hW : 2 * g.monitorRoom + (rest.map fun v => v.category).sum ≤ 8) (hdg : decode cc g.pc = .ok (.invokestatic index, 3)) (hf : cells + mc ≤ R.cells ∧ slots + ms ≤ R.slots) :
    vx_Run p l e R s m args below meth c H locs cells slots mc ms g rest (Qc As.toArray) XC free := by
  obtain ⟨⟨hrc, hrs, hfr, hlo, hws, hcw⟩, hcode, hini, hy, hlen, hl, hstt⟩ := cw
  have hK : vx_Back l R p e below s args y 3 8 (PreOf R mc ms Pc) (PostOf Qc mc ms free) (vx_Post XC mc ms free) := vx_backW (hh := hh) (bytes := bytes) (maxL := maxL) (ret := ret) hM hp.1 hrc hrs hfr hlo hws hcw (fun a' U hW => word_at hW (Or.inl (by first | rfl | simp [Cond.onTables, Cond.keeps, Cond.steady])) hini)
  obtain ⟨hx, hb, hml, ho, -⟩ := S
  intro T hT X
  rcases vx_callSX X hx (hh := hh) (bytes := bytes) (maxL := maxL) (ret := ret) ho hl hstt hini hcode hy hK hg (hsize.trans hml.symm) (argsL := As) (rest := rest) (fun sig h => hn.trans (hlen sig h)) hstack hW (by rw [hb]; exact hdg)
    (fun vm₁ hW₁ => ⟨hf.1, hf.2, hp.2 (T.setVm vm₁) hT hW₁⟩) with ⟨v, vm₁, ⟨U', l2, c2, s2⟩, hW₁, X', ⟨g', mk, t, L, e1, e2, hq, h1, hL, h2, h3⟩, st⟩ | ⟨q, vm₁, ⟨U', l2, c2, s2⟩, hW₁, X', ⟨g', mk, t, L, E, ce, e1, e2, hq, hce, hcv, hcl, h1, hL, h2, h3⟩, st⟩
  · dsimp only [Pt.U, Pt.locs, Pt.cells, Pt.slots] at X' e1 e2 h1 h2 h3 st
    subst h1; subst h2; subst h3
    exact Or.inl ⟨v, (T.setVm vm₁).calling g' mk As.toArray, t, U', L, hT, X', hL, e1, e2, hq, st⟩
  · dsimp only [Pt.U, Pt.locs, Pt.cells, Pt.slots] at X' e1 e2 h1 h2 h3 st hcl
    subst h1; subst h2; subst h3
    exact Or.inr ⟨q, (T.setVm vm₁).calling g' mk As.toArray, t, U', L, E, ce, hT, X', hL, e1, e2, hq, hce, hcv, vx_cls hW₁ hcl, st⟩
end
end VXH
theorem vx_ofWH {l : Launch} {y : MethodName} {ws ws' : List Cond} {rm : Room} {Pc : Array Value → State → Prop} {Qc : Array Value → State → Outcome → State → Prop} {XC : String → State → State → Prop} {mc ms : Nat} {free : Addr → Prop} {cc : ByteArray} {maxL : Nat} {ret : Option FieldType} {hh : List (Nat × Nat × Nat × Nat)}
    (hy : plainName y.cls = true) (hw : ws = Cond.codeWith y cc maxL ret hh :: ws')
    (body : ∀ p e s m args below meth c s₁, BodyLoose p l y (headSpec ws rm) cc maxL ret e s m args below meth c s₁ → c.maxLocals = maxL → Pc args s →
      W p l e (headSpec ws rm).room s m args below meth c s.heap [] 0 0 (vx_MQ below Qc XC args s mc ms free) (entryFrame m args maxL)) : vx_Met l y ws rm Pc Qc XC mc ms free := by
  refine MetFree.of_bodyS (code := cc) (maxLocals := maxL) (ret := ret) hy ?_ ?_
  · intro args s m h hn
    obtain ⟨m9, meth, c, hn9, h1, h2, h3, h4, -, h5, h6, -⟩ := Cond.codeWith_spec (atoms_spec (ws := ws) h _ (by rw [hw]; exact List.mem_cons_self))
    cases hn.symm.trans hn9
    exact ⟨meth, c, h1, h2, h3, h4, h5, h6⟩
  · intro p e s m args below meth c s₁ B hml hP _
    have hh0 : s₁.heap = s.heap := by rw [B.state]; rfl
    obtain ⟨t, a1, o, b1, b2, b3⟩ := body p e s m args below meth c s₁ B hml hP s₁ hh0 (Stand.of_body B)
    exact ⟨t, o, a1, b1, b2, b3⟩
/-! ===== END ===== -/

def RX0 : String := "StreetOrgans$Pipes"
def TX0 : u_T := fun k => match k with
  | 0 => ("StreetOrgans$Pipes", "worn", "[I", true)
  | 1 => ("StreetOrgans$Pipes", "off", "[I", true)
  | 2 => ("StreetOrgans$Pipes", "cricket", "[Z", true)
  | _ => ("StreetOrgans$Pipes", "playedToday", "[Z", true)
def tyX0 : Nat → FieldType := fun k => match k with
  | 0 => .array .int
  | 1 => .array .int
  | 2 => .array .boolean
  | _ => .array .boolean
abbrev wsX00 : List Cond := u_ws RX0 TX0 4
theorem nmX0 : ∀ a, a < 4 → ∀ b, b < 4 → a ≠ b → (TX0 a).2.1 ≠ (TX0 b).2.1 := by decide +kernel
theorem tyX0_ok : ∀ k, k < 4 → parseFieldDescriptor (TX0 k).2.2.1 = some (tyX0 k) := by decide +kernel
abbrev cX0_init : ByteArray := prog_2_method_1_code
def yX0_init : MethodName := ⟨RX0, "<init>", "()V"⟩
abbrev cX0_become : ByteArray := prog_2_method_2_code
def yX0_become : MethodName := ⟨RX0, "become", "(LStreetOrgans$Pipes;)V"⟩
abbrev cX0_harmOf : ByteArray := prog_2_method_3_code
def yX0_harmOf : MethodName := ⟨RX0, "harmOf", "(I)I"⟩
abbrev cX0_wear : ByteArray := prog_2_method_4_code
def yX0_wear : MethodName := ⟨RX0, "wear", "(II)V"⟩
abbrev cX0_shift : ByteArray := prog_2_method_5_code
def yX0_shift : MethodName := ⟨RX0, "shift", "(II)V"⟩
abbrev cX0_passNight : ByteArray := prog_2_method_6_code
def yX0_passNight : MethodName := ⟨RX0, "passNight", "(I)I"⟩
abbrev cX0_clearCrickets : ByteArray := prog_2_method_7_code
def yX0_clearCrickets : MethodName := ⟨RX0, "clearCrickets", "()V"⟩
abbrev cX0_cricketCount : ByteArray := prog_2_method_8_code
def yX0_cricketCount : MethodName := ⟨RX0, "cricketCount", "()I"⟩
abbrev cX0_wornInAll : ByteArray := prog_2_method_9_code
def yX0_wornInAll : MethodName := ⟨RX0, "wornInAll", "()I"⟩
abbrev cX0_offInAll : ByteArray := prog_2_method_10_code
def yX0_offInAll : MethodName := ⟨RX0, "offInAll", "()I"⟩
abbrev cX0_sumUp : ByteArray := prog_2_method_11_code
def yX0_sumUp : MethodName := ⟨RX0, "sumUp", "(I)I"⟩
abbrev cX0_tell : ByteArray := prog_2_method_12_code
def yX0_tell : MethodName := ⟨RX0, "tell", "(II)I"⟩
def RX1 : String := "StreetOrgans$Street"
def TX1 : u_T := fun k => match k with
  | 0 => ("StreetOrgans$Street", "heard", "[I", true)
  | 1 => ("StreetOrgans$Street", "listeners", "I", false)
  | 2 => ("StreetOrgans$Street", "permits", "I", false)
  | _ => ("StreetOrgans$Street", "paid", "I", false)
def tyX1 : Nat → FieldType := fun k => match k with
  | 0 => .array .int
  | 1 => .int
  | 2 => .int
  | _ => .int
abbrev wsX10 : List Cond := u_ws RX1 TX1 4
theorem nmX1 : ∀ a, a < 4 → ∀ b, b < 4 → a ≠ b → (TX1 a).2.1 ≠ (TX1 b).2.1 := by decide +kernel
theorem tyX1_ok : ∀ k, k < 4 → parseFieldDescriptor (TX1 k).2.2.1 = some (tyX1 k) := by decide +kernel
abbrev cX1_init : ByteArray := prog_3_method_1_code
def yX1_init : MethodName := ⟨RX1, "<init>", "()V"⟩
abbrev cX1_isPermittedOn : ByteArray := prog_3_method_2_code
def yX1_isPermittedOn : MethodName := ⟨RX1, "isPermittedOn", "(I)Z"⟩
abbrev cX1_payFor : ByteArray := prog_3_method_3_code
def yX1_payFor : MethodName := ⟨RX1, "payFor", "(II)I"⟩
abbrev cX1_forgetDay : ByteArray := prog_3_method_4_code
def yX1_forgetDay : MethodName := ⟨RX1, "forgetDay", "()V"⟩
abbrev cX1_heardInAll : ByteArray := prog_3_method_5_code
def yX1_heardInAll : MethodName := ⟨RX1, "heardInAll", "()I"⟩
abbrev cX1_tell : ByteArray := prog_3_method_6_code
def yX1_tell : MethodName := ⟨RX1, "tell", "(II)I"⟩
def RX2 : String := "StreetOrgans$Tune"
def TX2 : u_T := fun k => match k with
  | 0 => ("StreetOrgans$Tune", "notes", "[I", true)
  | 1 => ("StreetOrgans$Tune", "times", "[I", true)
  | _ => ("StreetOrgans$Tune", "length", "I", false)
def tyX2 : Nat → FieldType := fun k => match k with
  | 0 => .array .int
  | 1 => .array .int
  | _ => .int
abbrev wsX20 : List Cond := u_ws RX2 TX2 3
theorem nmX2 : ∀ a, a < 3 → ∀ b, b < 3 → a ≠ b → (TX2 a).2.1 ≠ (TX2 b).2.1 := by decide +kernel
theorem tyX2_ok : ∀ k, k < 3 → parseFieldDescriptor (TX2 k).2.2.1 = some (tyX2 k) := by decide +kernel
abbrev cX2_init : ByteArray := prog_4_method_1_code
def yX2_init : MethodName := ⟨RX2, "<init>", "()V"⟩
abbrev cX2_append : ByteArray := prog_4_method_2_code
def yX2_append : MethodName := ⟨RX2, "append", "(I)I"⟩
abbrev cX2_soundOf : ByteArray := prog_4_method_3_code
def yX2_soundOf : MethodName := ⟨RX2, "soundOf", "(LStreetOrgans$Pipes;)I"⟩
abbrev cX2_soundSparing : ByteArray := prog_4_method_4_code
def yX2_soundSparing : MethodName := ⟨RX2, "soundSparing", "(LStreetOrgans$Pipes;I)I"⟩
abbrev cX2_wearDown : ByteArray := prog_4_method_5_code
def yX2_wearDown : MethodName := ⟨RX2, "wearDown", "(LStreetOrgans$Pipes;)V"⟩
def RX3 : String := "StreetOrgans"
def TX3 : u_T := fun k => match k with
  | 0 => ("StreetOrgans", "pipes", "LStreetOrgans$Pipes;", true)
  | 1 => ("StreetOrgans", "trial", "LStreetOrgans$Pipes;", true)
  | 2 => ("StreetOrgans", "tunes", "[LStreetOrgans$Tune;", true)
  | 3 => ("StreetOrgans", "streets", "[LStreetOrgans$Street;", true)
  | 4 => ("StreetOrgans", "damp", "[I", true)
  | 5 => ("StreetOrgans", "tuneCount", "I", false)
  | 6 => ("StreetOrgans", "streetCount", "I", false)
  | 7 => ("StreetOrgans", "day", "I", false)
  | 8 => ("StreetOrgans", "coins", "I", false)
  | _ => ("StreetOrgans", "fines", "I", false)
def tyX3 : Nat → FieldType := fun k => match k with
  | 0 => .object "StreetOrgans$Pipes"
  | 1 => .object "StreetOrgans$Pipes"
  | 2 => .array (.object "StreetOrgans$Tune")
  | 3 => .array (.object "StreetOrgans$Street")
  | 4 => .array .int
  | 5 => .int
  | 6 => .int
  | 7 => .int
  | 8 => .int
  | _ => .int
abbrev wsX30 : List Cond := u_ws RX3 TX3 10
theorem nmX3 : ∀ a, a < 10 → ∀ b, b < 10 → a ≠ b → (TX3 a).2.1 ≠ (TX3 b).2.1 := by decide +kernel
theorem tyX3_ok : ∀ k, k < 10 → parseFieldDescriptor (TX3 k).2.2.1 = some (tyX3 k) := by decide +kernel
abbrev cX3_init : ByteArray := prog_1_method_1_code
def yX3_init : MethodName := ⟨RX3, "<init>", "()V"⟩
abbrev cX3_barrel : ByteArray := prog_1_method_2_code
def yX3_barrel : MethodName := ⟨RX3, "barrel", "()I"⟩
abbrev cX3_pin : ByteArray := prog_1_method_3_code
def yX3_pin : MethodName := ⟨RX3, "pin", "(II)I"⟩
abbrev cX3_note : ByteArray := prog_1_method_4_code
def yX3_note : MethodName := ⟨RX3, "note", "(II)I"⟩
abbrev cX3_street : ByteArray := prog_1_method_5_code
def yX3_street : MethodName := ⟨RX3, "street", "(II)I"⟩
abbrev cX3_permit : ByteArray := prog_1_method_6_code
def yX3_permit : MethodName := ⟨RX3, "permit", "(II)I"⟩
abbrev cX3_setDamp : ByteArray := prog_1_method_7_code
def yX3_setDamp : MethodName := ⟨RX3, "setDamp", "(II)I"⟩
abbrev cX3_play : ByteArray := prog_1_method_8_code
def yX3_play : MethodName := ⟨RX3, "play", "(II)I"⟩
abbrev cX3_tune : ByteArray := prog_1_method_9_code
def yX3_tune : MethodName := ⟨RX3, "tune", "(II)I"⟩
abbrev cX3_felt : ByteArray := prog_1_method_10_code
def yX3_felt : MethodName := ⟨RX3, "felt", "(I)I"⟩
abbrev cX3_chase : ByteArray := prog_1_method_11_code
def yX3_chase : MethodName := ⟨RX3, "chase", "()I"⟩
abbrev cX3_pipe : ByteArray := prog_1_method_12_code
def yX3_pipe : MethodName := ⟨RX3, "pipe", "(II)I"⟩
abbrev cX3_sound : ByteArray := prog_1_method_13_code
def yX3_sound : MethodName := ⟨RX3, "sound", "(I)I"⟩
abbrev cX3_told : ByteArray := prog_1_method_14_code
def yX3_told : MethodName := ⟨RX3, "told", "(II)I"⟩
abbrev cX3_count : ByteArray := prog_1_method_15_code
def yX3_count : MethodName := ⟨RX3, "count", "(I)I"⟩
abbrev cX3_rest : ByteArray := prog_1_method_16_code
def yX3_rest : MethodName := ⟨RX3, "rest", "(I)I"⟩
abbrev cX3_pays : ByteArray := prog_1_method_17_code
def yX3_pays : MethodName := ⟨RX3, "pays", "(II)I"⟩
abbrev cX3_best : ByteArray := prog_1_method_18_code
def yX3_best : MethodName := ⟨RX3, "best", "(I)I"⟩
abbrev cX3_worst : ByteArray := prog_1_method_19_code
def yX3_worst : MethodName := ⟨RX3, "worst", "(I)I"⟩
abbrev cX3_foresee : ByteArray := prog_1_method_20_code
def yX3_foresee : MethodName := ⟨RX3, "foresee", "(II)I"⟩
abbrev cX3_lasts : ByteArray := prog_1_method_21_code
def yX3_lasts : MethodName := ⟨RX3, "lasts", "(I)I"⟩
abbrev cX3_mean : ByteArray := prog_1_method_22_code
def yX3_mean : MethodName := ⟨RX3, "mean", "()D"⟩
abbrev cX3_digest : ByteArray := prog_1_method_23_code
def yX3_digest : MethodName := ⟨RX3, "digest", "()J"⟩
abbrev cX3_checkTune : ByteArray := prog_1_method_24_code
def yX3_checkTune : MethodName := ⟨RX3, "checkTune", "(I)V"⟩
abbrev cX3_checkStreet : ByteArray := prog_1_method_25_code
def yX3_checkStreet : MethodName := ⟨RX3, "checkStreet", "(I)V"⟩
abbrev cX3_checkPipe : ByteArray := prog_1_method_26_code
def yX3_checkPipe : MethodName := ⟨RX3, "checkPipe", "(I)V"⟩
abbrev cX3_checkPermits : ByteArray := prog_1_method_27_code
def yX3_checkPermits : MethodName := ⟨RX3, "checkPermits", "(I)V"⟩
abbrev cX3_checkNights : ByteArray := prog_1_method_28_code
def yX3_checkNights : MethodName := ⟨RX3, "checkNights", "(I)V"⟩
abbrev cX3_weekdayOf : ByteArray := prog_1_method_29_code
def yX3_weekdayOf : MethodName := ⟨RX3, "weekdayOf", "(I)I"⟩
abbrev cX3_payNow : ByteArray := prog_1_method_30_code
def yX3_payNow : MethodName := ⟨RX3, "payNow", "(II)I"⟩
abbrev cX3_payFine : ByteArray := prog_1_method_31_code
def yX3_payFine : MethodName := ⟨RX3, "payFine", "()I"⟩
abbrev cX3_passNights : ByteArray := prog_1_method_32_code
def yX3_passNights : MethodName := ⟨RX3, "passNights", "(LStreetOrgans$Pipes;I)I"⟩
abbrev cX3_countNow : ByteArray := prog_1_method_33_code
def yX3_countNow : MethodName := ⟨RX3, "countNow", "(I)I"⟩
abbrev cX3_mix : ByteArray := prog_1_method_34_code
def yX3_mix : MethodName := ⟨RX3, "mix", "(JI)J"⟩
abbrev cX3_mixTune : ByteArray := prog_1_method_35_code
def yX3_mixTune : MethodName := ⟨RX3, "mixTune", "(JLStreetOrgans$Tune;)J"⟩
abbrev cX3_mixStreet : ByteArray := prog_1_method_36_code
def yX3_mixStreet : MethodName := ⟨RX3, "mixStreet", "(JI)J"⟩
def RX4 : String := "StreetOrgansModel$Pipes"
def TX4 : u_T := fun k => match k with
  | 0 => ("StreetOrgansModel$Pipes", "day", "I", false)
  | 1 => ("StreetOrgansModel$Pipes", "worn", "[I", true)
  | 2 => ("StreetOrgansModel$Pipes", "off", "[I", true)
  | 3 => ("StreetOrgansModel$Pipes", "cricket", "[I", true)
  | _ => ("StreetOrgansModel$Pipes", "sang", "[I", true)
def tyX4 : Nat → FieldType := fun k => match k with
  | 0 => .int
  | 1 => .array .int
  | 2 => .array .int
  | 3 => .array .int
  | _ => .array .int
abbrev wsX40 : List Cond := u_ws RX4 TX4 5
theorem nmX4 : ∀ a, a < 5 → ∀ b, b < 5 → a ≠ b → (TX4 a).2.1 ≠ (TX4 b).2.1 := by decide +kernel
theorem tyX4_ok : ∀ k, k < 5 → parseFieldDescriptor (TX4 k).2.2.1 = some (tyX4 k) := by decide +kernel
abbrev cX4_init : ByteArray := prog_7_method_1_code
def yX4_init : MethodName := ⟨RX4, "<init>", "()V"⟩
abbrev cX4_become : ByteArray := prog_7_method_2_code
def yX4_become : MethodName := ⟨RX4, "become", "(LStreetOrgansModel$Pipes;)V"⟩
abbrev cX4_harm : ByteArray := prog_7_method_3_code
def yX4_harm : MethodName := ⟨RX4, "harm", "(I)I"⟩
abbrev cX4_sing : ByteArray := prog_7_method_4_code
def yX4_sing : MethodName := ⟨RX4, "sing", "(I)V"⟩
abbrev cX4_rest : ByteArray := prog_7_method_5_code
def yX4_rest : MethodName := ⟨RX4, "rest", "(I)I"⟩
abbrev cX4_crickets : ByteArray := prog_7_method_6_code
def yX4_crickets : MethodName := ⟨RX4, "crickets", "()I"⟩
abbrev cX4_allWorn : ByteArray := prog_7_method_7_code
def yX4_allWorn : MethodName := ⟨RX4, "allWorn", "()I"⟩
abbrev cX4_allOff : ByteArray := prog_7_method_8_code
def yX4_allOff : MethodName := ⟨RX4, "allOff", "()I"⟩
def RX5 : String := "StreetOrgansModel"
def TX5 : u_T := fun k => match k with
  | 0 => ("StreetOrgansModel", "thrown", "I", false)
  | 1 => ("StreetOrgansModel", "tunes", "I", false)
  | 2 => ("StreetOrgansModel", "many", "[I", true)
  | 3 => ("StreetOrgansModel", "notes", "[I", true)
  | 4 => ("StreetOrgansModel", "streets", "I", false)
  | 5 => ("StreetOrgansModel", "listeners", "[I", true)
  | 6 => ("StreetOrgansModel", "permits", "[I", true)
  | 7 => ("StreetOrgansModel", "paid", "[I", true)
  | 8 => ("StreetOrgansModel", "played", "[I", true)
  | 9 => ("StreetOrgansModel", "damp", "[I", true)
  | 10 => ("StreetOrgansModel", "coins", "I", false)
  | 11 => ("StreetOrgansModel", "fines", "I", false)
  | 12 => ("StreetOrgansModel", "s", "LStreetOrgansModel$Pipes;", true)
  | _ => ("StreetOrgansModel", "ahead", "LStreetOrgansModel$Pipes;", true)
def tyX5 : Nat → FieldType := fun k => match k with
  | 0 => .int
  | 1 => .int
  | 2 => .array .int
  | 3 => .array .int
  | 4 => .int
  | 5 => .array .int
  | 6 => .array .int
  | 7 => .array .int
  | 8 => .array .int
  | 9 => .array .int
  | 10 => .int
  | 11 => .int
  | 12 => .object "StreetOrgansModel$Pipes"
  | _ => .object "StreetOrgansModel$Pipes"
abbrev wsX50 : List Cond := u_ws RX5 TX5 14
theorem nmX5 : ∀ a, a < 14 → ∀ b, b < 14 → a ≠ b → (TX5 a).2.1 ≠ (TX5 b).2.1 := by decide +kernel
theorem tyX5_ok : ∀ k, k < 14 → parseFieldDescriptor (TX5 k).2.2.1 = some (tyX5 k) := by decide +kernel
abbrev cX5_init : ByteArray := prog_6_method_1_code
def yX5_init : MethodName := ⟨RX5, "<init>", "()V"⟩
abbrev cX5_thrown : ByteArray := prog_6_method_2_code
def yX5_thrown : MethodName := ⟨RX5, "thrown", "()I"⟩
abbrev cX5_no : ByteArray := prog_6_method_3_code
def yX5_no : MethodName := ⟨RX5, "no", "(I)I"⟩
abbrev cX5_held : ByteArray := prog_6_method_4_code
def yX5_held : MethodName := ⟨RX5, "held", "(I)I"⟩
abbrev cX5_isIn : ByteArray := prog_6_method_5_code
def yX5_isIn : MethodName := ⟨RX5, "isIn", "(III)Z"⟩
abbrev cX5_isTune : ByteArray := prog_6_method_6_code
def yX5_isTune : MethodName := ⟨RX5, "isTune", "(I)Z"⟩
abbrev cX5_isStreet : ByteArray := prog_6_method_7_code
def yX5_isStreet : MethodName := ⟨RX5, "isStreet", "(I)Z"⟩
abbrev cX5_isPipe : ByteArray := prog_6_method_8_code
def yX5_isPipe : MethodName := ⟨RX5, "isPipe", "(I)Z"⟩
abbrev cX5_isDays : ByteArray := prog_6_method_9_code
def yX5_isDays : MethodName := ⟨RX5, "isDays", "(I)Z"⟩
abbrev cX5_barrel : ByteArray := prog_6_method_10_code
def yX5_barrel : MethodName := ⟨RX5, "barrel", "()I"⟩
abbrev cX5_pin : ByteArray := prog_6_method_11_code
def yX5_pin : MethodName := ⟨RX5, "pin", "(II)I"⟩
abbrev cX5_note : ByteArray := prog_6_method_12_code
def yX5_note : MethodName := ⟨RX5, "note", "(II)I"⟩
abbrev cX5_street : ByteArray := prog_6_method_13_code
def yX5_street : MethodName := ⟨RX5, "street", "(II)I"⟩
abbrev cX5_permit : ByteArray := prog_6_method_14_code
def yX5_permit : MethodName := ⟨RX5, "permit", "(II)I"⟩
abbrev cX5_setDamp : ByteArray := prog_6_method_15_code
def yX5_setDamp : MethodName := ⟨RX5, "setDamp", "(II)I"⟩
abbrev cX5_soundOf : ByteArray := prog_6_method_16_code
def yX5_soundOf : MethodName := ⟨RX5, "soundOf", "(ILStreetOrgansModel$Pipes;I)I"⟩
abbrev cX5_paysNow : ByteArray := prog_6_method_17_code
def yX5_paysNow : MethodName := ⟨RX5, "paysNow", "(II)I"⟩
abbrev cX5_isPermitted : ByteArray := prog_6_method_18_code
def yX5_isPermitted : MethodName := ⟨RX5, "isPermitted", "(I)Z"⟩
abbrev cX5_sing : ByteArray := prog_6_method_19_code
def yX5_sing : MethodName := ⟨RX5, "sing", "(ILStreetOrgansModel$Pipes;)V"⟩
abbrev cX5_play : ByteArray := prog_6_method_20_code
def yX5_play : MethodName := ⟨RX5, "play", "(II)I"⟩
abbrev cX5_tune : ByteArray := prog_6_method_21_code
def yX5_tune : MethodName := ⟨RX5, "tune", "(II)I"⟩
abbrev cX5_felt : ByteArray := prog_6_method_22_code
def yX5_felt : MethodName := ⟨RX5, "felt", "(I)I"⟩
abbrev cX5_chase : ByteArray := prog_6_method_23_code
def yX5_chase : MethodName := ⟨RX5, "chase", "()I"⟩
abbrev cX5_pipeTold : ByteArray := prog_6_method_24_code
def yX5_pipeTold : MethodName := ⟨RX5, "pipeTold", "(II)I"⟩
abbrev cX5_pipe : ByteArray := prog_6_method_25_code
def yX5_pipe : MethodName := ⟨RX5, "pipe", "(II)I"⟩
abbrev cX5_sound : ByteArray := prog_6_method_26_code
def yX5_sound : MethodName := ⟨RX5, "sound", "(I)I"⟩
abbrev cX5_streetTold : ByteArray := prog_6_method_27_code
def yX5_streetTold : MethodName := ⟨RX5, "streetTold", "(II)I"⟩
abbrev cX5_told : ByteArray := prog_6_method_28_code
def yX5_told : MethodName := ⟨RX5, "told", "(II)I"⟩
abbrev cX5_counted : ByteArray := prog_6_method_29_code
def yX5_counted : MethodName := ⟨RX5, "counted", "(I)I"⟩
abbrev cX5_count : ByteArray := prog_6_method_30_code
def yX5_count : MethodName := ⟨RX5, "count", "(I)I"⟩
abbrev cX5_rest : ByteArray := prog_6_method_31_code
def yX5_rest : MethodName := ⟨RX5, "rest", "(I)I"⟩
abbrev cX5_pays : ByteArray := prog_6_method_32_code
def yX5_pays : MethodName := ⟨RX5, "pays", "(II)I"⟩
abbrev cX5_best : ByteArray := prog_6_method_33_code
def yX5_best : MethodName := ⟨RX5, "best", "(I)I"⟩
abbrev cX5_worst : ByteArray := prog_6_method_34_code
def yX5_worst : MethodName := ⟨RX5, "worst", "(I)I"⟩
abbrev cX5_foresee : ByteArray := prog_6_method_35_code
def yX5_foresee : MethodName := ⟨RX5, "foresee", "(II)I"⟩
abbrev cX5_lasts : ByteArray := prog_6_method_36_code
def yX5_lasts : MethodName := ⟨RX5, "lasts", "(I)I"⟩
abbrev cX5_mean : ByteArray := prog_6_method_37_code
def yX5_mean : MethodName := ⟨RX5, "mean", "()D"⟩
abbrev cX5_digest : ByteArray := prog_6_method_38_code
def yX5_digest : MethodName := ⟨RX5, "digest", "()J"⟩
def RJx145de : String := "java/io/Serializable"
def TJx145de : u_T := fun k => match k with
  | _ => ("", "", "", false)
def tyJx145de : Nat → FieldType := fun k => match k with
  | _ => .int
theorem nmJx145de : ∀ a, a < 0 → ∀ b, b < 0 → a ≠ b → (TJx145de a).2.1 ≠ (TJx145de b).2.1 := by decide +kernel
theorem tyJx145de_ok : ∀ k, k < 0 → parseFieldDescriptor (TJx145de k).2.2.1 = some (tyJx145de k) := by decide +kernel
def RJ9 : String := "java/lang/Math"
def TJ9 : u_T := fun k => match k with
  | _ => ("", "", "", false)
def tyJ9 : Nat → FieldType := fun k => match k with
  | _ => .int
abbrev wsJ90 : List Cond := u_ws RJ9 TJ9 0
theorem nmJ9 : ∀ a, a < 0 → ∀ b, b < 0 → a ≠ b → (TJ9 a).2.1 ≠ (TJ9 b).2.1 := by decide +kernel
theorem tyJ9_ok : ∀ k, k < 0 → parseFieldDescriptor (TJ9 k).2.2.1 = some (tyJ9 k) := by decide +kernel
abbrev cJ9_floorMod_7cf53 : ByteArray := prog_12_method_50_code
def yJ9_floorMod_7cf53 : MethodName := ⟨RJ9, "floorMod", "(II)I"⟩
abbrev cJ9_abs_0f7a4 : ByteArray := prog_12_method_59_code
def yJ9_abs_0f7a4 : MethodName := ⟨RJ9, "abs", "(I)I"⟩
abbrev cJ9_max_7cf53 : ByteArray := prog_12_method_65_code
def yJ9_max_7cf53 : MethodName := ⟨RJ9, "max", "(II)I"⟩
abbrev cJ9_min_7cf53 : ByteArray := prog_12_method_69_code
def yJ9_min_7cf53 : MethodName := ⟨RJ9, "min", "(II)I"⟩
def RJ0 : String := "java/lang/String"
def TJ0 : u_T := fun k => match k with
  | _ => ("", "", "", false)
def tyJ0 : Nat → FieldType := fun k => match k with
  | _ => .int
abbrev wsJ00 : List Cond := u_ws RJ0 TJ0 0
theorem nmJ0 : ∀ a, a < 0 → ∀ b, b < 0 → a ≠ b → (TJ0 a).2.1 ≠ (TJ0 b).2.1 := by decide +kernel
theorem tyJ0_ok : ∀ k, k < 0 → parseFieldDescriptor (TJ0 k).2.2.1 = some (tyJ0 k) := by decide +kernel
def RJ10 : String := "java/lang/System"
def TJ10 : u_T := fun k => match k with
  | _ => ("", "", "", false)
def tyJ10 : Nat → FieldType := fun k => match k with
  | _ => .int
abbrev wsJ100 : List Cond := u_ws RJ10 TJ10 0
theorem nmJ10 : ∀ a, a < 0 → ∀ b, b < 0 → a ≠ b → (TJ10 a).2.1 ≠ (TJ10 b).2.1 := by decide +kernel
theorem tyJ10_ok : ∀ k, k < 0 → parseFieldDescriptor (TJ10 k).2.2.1 = some (tyJ10 k) := by decide +kernel
def RJ7 : String := "java/util/Arrays"
def TJ7 : u_T := fun k => match k with
  | _ => ("", "", "", false)
def tyJ7 : Nat → FieldType := fun k => match k with
  | _ => .int
abbrev wsJ70 : List Cond := u_ws RJ7 TJ7 0
theorem nmJ7 : ∀ a, a < 0 → ∀ b, b < 0 → a ≠ b → (TJ7 a).2.1 ≠ (TJ7 b).2.1 := by decide +kernel
theorem tyJ7_ok : ∀ k, k < 0 → parseFieldDescriptor (TJ7 k).2.2.1 = some (tyJ7 k) := by decide +kernel
abbrev cJ7_fill_53178 : ByteArray := prog_17_method_103_code
def yJ7_fill_53178 : MethodName := ⟨RJ7, "fill", "([II)V"⟩
def RL : String := "StreetOrgansLaw"
abbrev cL_barrel : ByteArray := method_3_code
def yL_barrel : MethodName := ⟨RL, "barrel", "(LStreetOrgans;[J)I"⟩
abbrev cL_pin : ByteArray := method_4_code
def yL_pin : MethodName := ⟨RL, "pin", "(LStreetOrgans;II[J)I"⟩
abbrev cL_note : ByteArray := method_5_code
def yL_note : MethodName := ⟨RL, "note", "(LStreetOrgans;II[J)I"⟩
abbrev cL_street : ByteArray := method_6_code
def yL_street : MethodName := ⟨RL, "street", "(LStreetOrgans;II[J)I"⟩
abbrev cL_permit : ByteArray := method_7_code
def yL_permit : MethodName := ⟨RL, "permit", "(LStreetOrgans;II[J)I"⟩
abbrev cL_setDamp : ByteArray := method_8_code
def yL_setDamp : MethodName := ⟨RL, "setDamp", "(LStreetOrgans;II[J)I"⟩
abbrev cL_play : ByteArray := method_9_code
def yL_play : MethodName := ⟨RL, "play", "(LStreetOrgans;II[J)I"⟩
abbrev cL_tune : ByteArray := method_10_code
def yL_tune : MethodName := ⟨RL, "tune", "(LStreetOrgans;II[J)I"⟩
abbrev cL_felt : ByteArray := method_11_code
def yL_felt : MethodName := ⟨RL, "felt", "(LStreetOrgans;I[J)I"⟩
abbrev cL_pipe : ByteArray := method_12_code
def yL_pipe : MethodName := ⟨RL, "pipe", "(LStreetOrgans;II[J)I"⟩
abbrev cL_sound : ByteArray := method_13_code
def yL_sound : MethodName := ⟨RL, "sound", "(LStreetOrgans;I[J)I"⟩
abbrev cL_told : ByteArray := method_14_code
def yL_told : MethodName := ⟨RL, "told", "(LStreetOrgans;II[J)I"⟩
abbrev cL_count : ByteArray := method_15_code
def yL_count : MethodName := ⟨RL, "count", "(LStreetOrgans;I[J)I"⟩
abbrev cL_rest : ByteArray := method_16_code
def yL_rest : MethodName := ⟨RL, "rest", "(LStreetOrgans;I[J)I"⟩
abbrev cL_pays : ByteArray := method_17_code
def yL_pays : MethodName := ⟨RL, "pays", "(LStreetOrgans;II[J)I"⟩
abbrev cL_best : ByteArray := method_18_code
def yL_best : MethodName := ⟨RL, "best", "(LStreetOrgans;I[J)I"⟩
abbrev cL_worst : ByteArray := method_19_code
def yL_worst : MethodName := ⟨RL, "worst", "(LStreetOrgans;I[J)I"⟩
abbrev cL_foresee : ByteArray := method_20_code
def yL_foresee : MethodName := ⟨RL, "foresee", "(LStreetOrgans;II[J)I"⟩
abbrev cL_lasts : ByteArray := method_21_code
def yL_lasts : MethodName := ⟨RL, "lasts", "(LStreetOrgans;I[J)I"⟩
abbrev cL_law : ByteArray := code
def yL_law : MethodName := ⟨RL, "law", "([I)Z"⟩
abbrev vwCl : List vw_C := [(RX0, TX0, 4), (RX1, TX1, 4), (RX2, TX2, 3), (RX3, TX3, 10), (RX4, TX4, 5), (RX5, TX5, 14)]
/-- the words of the tables that are kept -/
def wAll : List Cond := lw_tbl.filter goodWord
theorem wAll_in : ∀ w ∈ wAll, w ∈ lw_tbl := fun w h => (List.mem_filter.mp h).1
theorem wAll_good : ∀ w ∈ wAll, goodWord w = true := fun w h => (List.mem_filter.mp h).2
theorem kAll {w : Cond} (i : Nat) (h : lw_tbl[i]? = some w) (hg : goodWord w = true) : w ∈ wAll := List.mem_filter.mpr ⟨List.mem_of_getElem? h, hg⟩
end
section
theorem dX0_init_0 : decode cX0_init 0 = .ok (.aload_n 0, 1) := by decide +kernel
theorem dX0_init_1 : decode cX0_init 1 = .ok (.invokespecial 3, 3) := by decide +kernel
theorem dX0_init_4 : decode cX0_init 4 = .ok (.aload_n 0, 1) := by decide +kernel
theorem dX0_init_5 : decode cX0_init 5 = .ok (.bipush 12, 2) := by decide +kernel
theorem dX0_init_7 : decode cX0_init 7 = .ok (.newarray .int, 2) := by decide +kernel
theorem dX0_init_9 : decode cX0_init 9 = .ok (.putfield 9, 3) := by decide +kernel
theorem dX0_init_12 : decode cX0_init 12 = .ok (.aload_n 0, 1) := by decide +kernel
theorem dX0_init_13 : decode cX0_init 13 = .ok (.bipush 12, 2) := by decide +kernel
theorem dX0_init_15 : decode cX0_init 15 = .ok (.newarray .int, 2) := by decide +kernel
theorem dX0_init_17 : decode cX0_init 17 = .ok (.putfield 15, 3) := by decide +kernel
theorem dX0_init_20 : decode cX0_init 20 = .ok (.aload_n 0, 1) := by decide +kernel
theorem dX0_init_21 : decode cX0_init 21 = .ok (.bipush 12, 2) := by decide +kernel
theorem dX0_init_23 : decode cX0_init 23 = .ok (.newarray .boolean, 2) := by decide +kernel
theorem dX0_init_25 : decode cX0_init 25 = .ok (.putfield 18, 3) := by decide +kernel
theorem dX0_init_28 : decode cX0_init 28 = .ok (.aload_n 0, 1) := by decide +kernel
theorem dX0_init_29 : decode cX0_init 29 = .ok (.bipush 12, 2) := by decide +kernel
theorem dX0_init_31 : decode cX0_init 31 = .ok (.newarray .boolean, 2) := by decide +kernel
theorem dX0_init_33 : decode cX0_init 33 = .ok (.putfield 22, 3) := by decide +kernel
theorem dX0_init_36 : decode cX0_init 36 = .ok (.return_, 1) := by decide +kernel
theorem dX0_become_0 : decode cX0_become 0 = .ok (.iconst 0, 1) := by decide +kernel
theorem dX0_become_1 : decode cX0_become 1 = .ok (.istore_n 2, 1) := by decide +kernel
theorem dX0_become_2 : decode cX0_become 2 = .ok (.iload_n 2, 1) := by decide +kernel
theorem dX0_become_3 : decode cX0_become 3 = .ok (.bipush 12, 2) := by decide +kernel
theorem dX0_become_5 : decode cX0_become 5 = .ok (.if_icmp .ge 57, 3) := by decide +kernel
theorem dX0_become_8 : decode cX0_become 8 = .ok (.aload_n 0, 1) := by decide +kernel
theorem dX0_become_9 : decode cX0_become 9 = .ok (.getfield 9, 3) := by decide +kernel
theorem dX0_become_12 : decode cX0_become 12 = .ok (.iload_n 2, 1) := by decide +kernel
theorem dX0_become_13 : decode cX0_become 13 = .ok (.aload_n 1, 1) := by decide +kernel
theorem dX0_become_14 : decode cX0_become 14 = .ok (.getfield 9, 3) := by decide +kernel
theorem dX0_become_17 : decode cX0_become 17 = .ok (.iload_n 2, 1) := by decide +kernel
theorem dX0_become_18 : decode cX0_become 18 = .ok (.iaload, 1) := by decide +kernel
theorem dX0_become_19 : decode cX0_become 19 = .ok (.iastore, 1) := by decide +kernel
theorem dX0_become_20 : decode cX0_become 20 = .ok (.aload_n 0, 1) := by decide +kernel
theorem dX0_become_21 : decode cX0_become 21 = .ok (.getfield 15, 3) := by decide +kernel
theorem dX0_become_24 : decode cX0_become 24 = .ok (.iload_n 2, 1) := by decide +kernel
theorem dX0_become_25 : decode cX0_become 25 = .ok (.aload_n 1, 1) := by decide +kernel
theorem dX0_become_26 : decode cX0_become 26 = .ok (.getfield 15, 3) := by decide +kernel
theorem dX0_become_29 : decode cX0_become 29 = .ok (.iload_n 2, 1) := by decide +kernel
theorem dX0_become_30 : decode cX0_become 30 = .ok (.iaload, 1) := by decide +kernel
theorem dX0_become_31 : decode cX0_become 31 = .ok (.iastore, 1) := by decide +kernel
theorem dX0_become_32 : decode cX0_become 32 = .ok (.aload_n 0, 1) := by decide +kernel
theorem dX0_become_33 : decode cX0_become 33 = .ok (.getfield 18, 3) := by decide +kernel
theorem dX0_become_36 : decode cX0_become 36 = .ok (.iload_n 2, 1) := by decide +kernel
theorem dX0_become_37 : decode cX0_become 37 = .ok (.aload_n 1, 1) := by decide +kernel
theorem dX0_become_38 : decode cX0_become 38 = .ok (.getfield 18, 3) := by decide +kernel
theorem dX0_become_41 : decode cX0_become 41 = .ok (.iload_n 2, 1) := by decide +kernel
theorem dX0_become_42 : decode cX0_become 42 = .ok (.baload, 1) := by decide +kernel
theorem dX0_become_43 : decode cX0_become 43 = .ok (.bastore, 1) := by decide +kernel
theorem dX0_become_44 : decode cX0_become 44 = .ok (.aload_n 0, 1) := by decide +kernel
theorem dX0_become_45 : decode cX0_become 45 = .ok (.getfield 22, 3) := by decide +kernel
theorem dX0_become_48 : decode cX0_become 48 = .ok (.iload_n 2, 1) := by decide +kernel
theorem dX0_become_49 : decode cX0_become 49 = .ok (.aload_n 1, 1) := by decide +kernel
theorem dX0_become_50 : decode cX0_become 50 = .ok (.getfield 22, 3) := by decide +kernel
theorem dX0_become_53 : decode cX0_become 53 = .ok (.iload_n 2, 1) := by decide +kernel
theorem dX0_become_54 : decode cX0_become 54 = .ok (.baload, 1) := by decide +kernel
theorem dX0_become_55 : decode cX0_become 55 = .ok (.bastore, 1) := by decide +kernel
theorem dX0_become_56 : decode cX0_become 56 = .ok (.iinc 2 1, 3) := by decide +kernel
theorem dX0_become_59 : decode cX0_become 59 = .ok (.goto (-57), 3) := by decide +kernel
theorem dX0_become_62 : decode cX0_become 62 = .ok (.return_, 1) := by decide +kernel
theorem dX0_harmOf_0 : decode cX0_harmOf 0 = .ok (.aload_n 0, 1) := by decide +kernel
theorem dX0_harmOf_1 : decode cX0_harmOf 1 = .ok (.getfield 18, 3) := by decide +kernel
theorem dX0_harmOf_4 : decode cX0_harmOf 4 = .ok (.iload_n 1, 1) := by decide +kernel
theorem dX0_harmOf_5 : decode cX0_harmOf 5 = .ok (.baload, 1) := by decide +kernel
theorem dX0_harmOf_6 : decode cX0_harmOf 6 = .ok (.ifCond .eq 6, 3) := by decide +kernel
theorem dX0_harmOf_9 : decode cX0_harmOf 9 = .ok (.bipush 60, 2) := by decide +kernel
theorem dX0_harmOf_11 : decode cX0_harmOf 11 = .ok (.ireturn, 1) := by decide +kernel
theorem dX0_harmOf_12 : decode cX0_harmOf 12 = .ok (.bipush 60, 2) := by decide +kernel
theorem dX0_harmOf_14 : decode cX0_harmOf 14 = .ok (.aload_n 0, 1) := by decide +kernel
theorem dX0_harmOf_15 : decode cX0_harmOf 15 = .ok (.getfield 15, 3) := by decide +kernel
theorem dX0_harmOf_18 : decode cX0_harmOf 18 = .ok (.iload_n 1, 1) := by decide +kernel
theorem dX0_harmOf_19 : decode cX0_harmOf 19 = .ok (.iaload, 1) := by decide +kernel
theorem dX0_harmOf_20 : decode cX0_harmOf 20 = .ok (.invokestatic 25, 3) := by decide +kernel
theorem dX0_harmOf_23 : decode cX0_harmOf 23 = .ok (.iconst 2, 1) := by decide +kernel
theorem dX0_harmOf_24 : decode cX0_harmOf 24 = .ok (.aload_n 0, 1) := by decide +kernel
theorem dX0_harmOf_25 : decode cX0_harmOf 25 = .ok (.getfield 9, 3) := by decide +kernel
theorem dX0_harmOf_28 : decode cX0_harmOf 28 = .ok (.iload_n 1, 1) := by decide +kernel
theorem dX0_harmOf_29 : decode cX0_harmOf 29 = .ok (.iaload, 1) := by decide +kernel
theorem dX0_harmOf_30 : decode cX0_harmOf 30 = .ok (.imul, 1) := by decide +kernel
theorem dX0_harmOf_31 : decode cX0_harmOf 31 = .ok (.iadd, 1) := by decide +kernel
theorem dX0_harmOf_32 : decode cX0_harmOf 32 = .ok (.invokestatic 31, 3) := by decide +kernel
theorem dX0_harmOf_35 : decode cX0_harmOf 35 = .ok (.ireturn, 1) := by decide +kernel
theorem dX0_wear_0 : decode cX0_wear 0 = .ok (.aload_n 0, 1) := by decide +kernel
theorem dX0_wear_1 : decode cX0_wear 1 = .ok (.getfield 9, 3) := by decide +kernel
theorem dX0_wear_4 : decode cX0_wear 4 = .ok (.iload_n 1, 1) := by decide +kernel
theorem dX0_wear_5 : decode cX0_wear 5 = .ok (.bipush 30, 2) := by decide +kernel
theorem dX0_wear_7 : decode cX0_wear 7 = .ok (.aload_n 0, 1) := by decide +kernel
theorem dX0_wear_8 : decode cX0_wear 8 = .ok (.getfield 9, 3) := by decide +kernel
theorem dX0_wear_11 : decode cX0_wear 11 = .ok (.iload_n 1, 1) := by decide +kernel
theorem dX0_wear_12 : decode cX0_wear 12 = .ok (.iaload, 1) := by decide +kernel
theorem dX0_wear_13 : decode cX0_wear 13 = .ok (.iload_n 2, 1) := by decide +kernel
theorem dX0_wear_14 : decode cX0_wear 14 = .ok (.iadd, 1) := by decide +kernel
theorem dX0_wear_15 : decode cX0_wear 15 = .ok (.invokestatic 31, 3) := by decide +kernel
theorem dX0_wear_18 : decode cX0_wear 18 = .ok (.iastore, 1) := by decide +kernel
theorem dX0_wear_19 : decode cX0_wear 19 = .ok (.aload_n 0, 1) := by decide +kernel
theorem dX0_wear_20 : decode cX0_wear 20 = .ok (.getfield 22, 3) := by decide +kernel
theorem dX0_wear_23 : decode cX0_wear 23 = .ok (.iload_n 1, 1) := by decide +kernel
theorem dX0_wear_24 : decode cX0_wear 24 = .ok (.iconst 1, 1) := by decide +kernel
theorem dX0_wear_25 : decode cX0_wear 25 = .ok (.bastore, 1) := by decide +kernel
theorem dX0_wear_26 : decode cX0_wear 26 = .ok (.return_, 1) := by decide +kernel
theorem dX0_shift_0 : decode cX0_shift 0 = .ok (.aload_n 0, 1) := by decide +kernel
theorem dX0_shift_1 : decode cX0_shift 1 = .ok (.getfield 15, 3) := by decide +kernel
theorem dX0_shift_4 : decode cX0_shift 4 = .ok (.iload_n 1, 1) := by decide +kernel
theorem dX0_shift_5 : decode cX0_shift 5 = .ok (.bipush (-60), 2) := by decide +kernel
theorem dX0_shift_7 : decode cX0_shift 7 = .ok (.bipush 60, 2) := by decide +kernel
theorem dX0_shift_9 : decode cX0_shift 9 = .ok (.aload_n 0, 1) := by decide +kernel
theorem dX0_shift_10 : decode cX0_shift 10 = .ok (.getfield 15, 3) := by decide +kernel
theorem dX0_shift_13 : decode cX0_shift 13 = .ok (.iload_n 1, 1) := by decide +kernel
theorem dX0_shift_14 : decode cX0_shift 14 = .ok (.iaload, 1) := by decide +kernel
theorem dX0_shift_15 : decode cX0_shift 15 = .ok (.iload_n 2, 1) := by decide +kernel
theorem dX0_shift_16 : decode cX0_shift 16 = .ok (.iadd, 1) := by decide +kernel
theorem dX0_shift_17 : decode cX0_shift 17 = .ok (.invokestatic 31, 3) := by decide +kernel
theorem dX0_shift_20 : decode cX0_shift 20 = .ok (.invokestatic 35, 3) := by decide +kernel
theorem dX0_shift_23 : decode cX0_shift 23 = .ok (.iastore, 1) := by decide +kernel
theorem dX0_shift_24 : decode cX0_shift 24 = .ok (.return_, 1) := by decide +kernel
theorem dX0_passNight_0 : decode cX0_passNight 0 = .ok (.iconst 0, 1) := by decide +kernel
theorem dX0_passNight_1 : decode cX0_passNight 1 = .ok (.istore_n 2, 1) := by decide +kernel
theorem dX0_passNight_2 : decode cX0_passNight 2 = .ok (.iconst 0, 1) := by decide +kernel
theorem dX0_passNight_3 : decode cX0_passNight 3 = .ok (.istore_n 3, 1) := by decide +kernel
theorem dX0_passNight_4 : decode cX0_passNight 4 = .ok (.iload_n 3, 1) := by decide +kernel
theorem dX0_passNight_5 : decode cX0_passNight 5 = .ok (.bipush 12, 2) := by decide +kernel
theorem dX0_passNight_7 : decode cX0_passNight 7 = .ok (.if_icmp .ge 72, 3) := by decide +kernel
theorem dX0_passNight_10 : decode cX0_passNight 10 = .ok (.aload_n 0, 1) := by decide +kernel
theorem dX0_passNight_11 : decode cX0_passNight 11 = .ok (.getfield 9, 3) := by decide +kernel
theorem dX0_passNight_14 : decode cX0_passNight 14 = .ok (.iload_n 3, 1) := by decide +kernel
theorem dX0_passNight_15 : decode cX0_passNight 15 = .ok (.iaload, 1) := by decide +kernel
theorem dX0_passNight_16 : decode cX0_passNight 16 = .ok (.bipush 10, 2) := by decide +kernel
theorem dX0_passNight_18 : decode cX0_passNight 18 = .ok (.if_icmp .lt 31, 3) := by decide +kernel
theorem dX0_passNight_21 : decode cX0_passNight 21 = .ok (.aload_n 0, 1) := by decide +kernel
theorem dX0_passNight_22 : decode cX0_passNight 22 = .ok (.getfield 22, 3) := by decide +kernel
theorem dX0_passNight_25 : decode cX0_passNight 25 = .ok (.iload_n 3, 1) := by decide +kernel
theorem dX0_passNight_26 : decode cX0_passNight 26 = .ok (.baload, 1) := by decide +kernel
theorem dX0_passNight_27 : decode cX0_passNight 27 = .ok (.ifCond .ne 22, 3) := by decide +kernel
theorem dX0_passNight_30 : decode cX0_passNight 30 = .ok (.aload_n 0, 1) := by decide +kernel
theorem dX0_passNight_31 : decode cX0_passNight 31 = .ok (.getfield 18, 3) := by decide +kernel
theorem dX0_passNight_34 : decode cX0_passNight 34 = .ok (.iload_n 3, 1) := by decide +kernel
theorem dX0_passNight_35 : decode cX0_passNight 35 = .ok (.baload, 1) := by decide +kernel
theorem dX0_passNight_36 : decode cX0_passNight 36 = .ok (.ifCond .ne 13, 3) := by decide +kernel
theorem dX0_passNight_39 : decode cX0_passNight 39 = .ok (.aload_n 0, 1) := by decide +kernel
theorem dX0_passNight_40 : decode cX0_passNight 40 = .ok (.getfield 18, 3) := by decide +kernel
theorem dX0_passNight_43 : decode cX0_passNight 43 = .ok (.iload_n 3, 1) := by decide +kernel
theorem dX0_passNight_44 : decode cX0_passNight 44 = .ok (.iconst 1, 1) := by decide +kernel
theorem dX0_passNight_45 : decode cX0_passNight 45 = .ok (.bastore, 1) := by decide +kernel
theorem dX0_passNight_46 : decode cX0_passNight 46 = .ok (.iinc 2 1, 3) := by decide +kernel
theorem dX0_passNight_49 : decode cX0_passNight 49 = .ok (.aload_n 0, 1) := by decide +kernel
theorem dX0_passNight_50 : decode cX0_passNight 50 = .ok (.iload_n 3, 1) := by decide +kernel
theorem dX0_passNight_51 : decode cX0_passNight 51 = .ok (.iload_n 3, 1) := by decide +kernel
theorem dX0_passNight_52 : decode cX0_passNight 52 = .ok (.iconst 2, 1) := by decide +kernel
theorem dX0_passNight_53 : decode cX0_passNight 53 = .ok (.irem, 1) := by decide +kernel
theorem dX0_passNight_54 : decode cX0_passNight 54 = .ok (.ifCond .ne 7, 3) := by decide +kernel
theorem dX0_passNight_57 : decode cX0_passNight 57 = .ok (.iload_n 1, 1) := by decide +kernel
theorem dX0_passNight_58 : decode cX0_passNight 58 = .ok (.goto 5, 3) := by decide +kernel
theorem dX0_passNight_61 : decode cX0_passNight 61 = .ok (.iload_n 1, 1) := by decide +kernel
theorem dX0_passNight_62 : decode cX0_passNight 62 = .ok (.ineg, 1) := by decide +kernel
theorem dX0_passNight_63 : decode cX0_passNight 63 = .ok (.invokevirtual 38, 3) := by decide +kernel
theorem dX0_passNight_66 : decode cX0_passNight 66 = .ok (.aload_n 0, 1) := by decide +kernel
theorem dX0_passNight_67 : decode cX0_passNight 67 = .ok (.getfield 22, 3) := by decide +kernel
theorem dX0_passNight_70 : decode cX0_passNight 70 = .ok (.iload_n 3, 1) := by decide +kernel
theorem dX0_passNight_71 : decode cX0_passNight 71 = .ok (.iconst 0, 1) := by decide +kernel
theorem dX0_passNight_72 : decode cX0_passNight 72 = .ok (.bastore, 1) := by decide +kernel
theorem dX0_passNight_73 : decode cX0_passNight 73 = .ok (.iinc 3 1, 3) := by decide +kernel
theorem dX0_passNight_76 : decode cX0_passNight 76 = .ok (.goto (-72), 3) := by decide +kernel
theorem dX0_passNight_79 : decode cX0_passNight 79 = .ok (.iload_n 2, 1) := by decide +kernel
theorem dX0_passNight_80 : decode cX0_passNight 80 = .ok (.ireturn, 1) := by decide +kernel
theorem dX0_clearCrickets_0 : decode cX0_clearCrickets 0 = .ok (.iconst 0, 1) := by decide +kernel
theorem dX0_clearCrickets_1 : decode cX0_clearCrickets 1 = .ok (.istore_n 1, 1) := by decide +kernel
theorem dX0_clearCrickets_2 : decode cX0_clearCrickets 2 = .ok (.iload_n 1, 1) := by decide +kernel
theorem dX0_clearCrickets_3 : decode cX0_clearCrickets 3 = .ok (.bipush 12, 2) := by decide +kernel
theorem dX0_clearCrickets_5 : decode cX0_clearCrickets 5 = .ok (.if_icmp .ge 16, 3) := by decide +kernel
theorem dX0_clearCrickets_8 : decode cX0_clearCrickets 8 = .ok (.aload_n 0, 1) := by decide +kernel
theorem dX0_clearCrickets_9 : decode cX0_clearCrickets 9 = .ok (.getfield 18, 3) := by decide +kernel
theorem dX0_clearCrickets_12 : decode cX0_clearCrickets 12 = .ok (.iload_n 1, 1) := by decide +kernel
theorem dX0_clearCrickets_13 : decode cX0_clearCrickets 13 = .ok (.iconst 0, 1) := by decide +kernel
theorem dX0_clearCrickets_14 : decode cX0_clearCrickets 14 = .ok (.bastore, 1) := by decide +kernel
theorem dX0_clearCrickets_15 : decode cX0_clearCrickets 15 = .ok (.iinc 1 1, 3) := by decide +kernel
theorem dX0_clearCrickets_18 : decode cX0_clearCrickets 18 = .ok (.goto (-16), 3) := by decide +kernel
theorem dX0_clearCrickets_21 : decode cX0_clearCrickets 21 = .ok (.return_, 1) := by decide +kernel
theorem dX0_cricketCount_0 : decode cX0_cricketCount 0 = .ok (.iconst 0, 1) := by decide +kernel
theorem dX0_cricketCount_1 : decode cX0_cricketCount 1 = .ok (.istore_n 1, 1) := by decide +kernel
theorem dX0_cricketCount_2 : decode cX0_cricketCount 2 = .ok (.iconst 0, 1) := by decide +kernel
theorem dX0_cricketCount_3 : decode cX0_cricketCount 3 = .ok (.istore_n 2, 1) := by decide +kernel
theorem dX0_cricketCount_4 : decode cX0_cricketCount 4 = .ok (.iload_n 2, 1) := by decide +kernel
theorem dX0_cricketCount_5 : decode cX0_cricketCount 5 = .ok (.bipush 12, 2) := by decide +kernel
theorem dX0_cricketCount_7 : decode cX0_cricketCount 7 = .ok (.if_icmp .ge 26, 3) := by decide +kernel
theorem dX0_cricketCount_10 : decode cX0_cricketCount 10 = .ok (.iload_n 1, 1) := by decide +kernel
theorem dX0_cricketCount_11 : decode cX0_cricketCount 11 = .ok (.aload_n 0, 1) := by decide +kernel
theorem dX0_cricketCount_12 : decode cX0_cricketCount 12 = .ok (.getfield 18, 3) := by decide +kernel
theorem dX0_cricketCount_15 : decode cX0_cricketCount 15 = .ok (.iload_n 2, 1) := by decide +kernel
theorem dX0_cricketCount_16 : decode cX0_cricketCount 16 = .ok (.baload, 1) := by decide +kernel
theorem dX0_cricketCount_17 : decode cX0_cricketCount 17 = .ok (.ifCond .eq 7, 3) := by decide +kernel
theorem dX0_cricketCount_20 : decode cX0_cricketCount 20 = .ok (.iconst 1, 1) := by decide +kernel
theorem dX0_cricketCount_21 : decode cX0_cricketCount 21 = .ok (.goto 4, 3) := by decide +kernel
theorem dX0_cricketCount_24 : decode cX0_cricketCount 24 = .ok (.iconst 0, 1) := by decide +kernel
theorem dX0_cricketCount_25 : decode cX0_cricketCount 25 = .ok (.iadd, 1) := by decide +kernel
theorem dX0_cricketCount_26 : decode cX0_cricketCount 26 = .ok (.istore_n 1, 1) := by decide +kernel
theorem dX0_cricketCount_27 : decode cX0_cricketCount 27 = .ok (.iinc 2 1, 3) := by decide +kernel
theorem dX0_cricketCount_30 : decode cX0_cricketCount 30 = .ok (.goto (-26), 3) := by decide +kernel
theorem dX0_cricketCount_33 : decode cX0_cricketCount 33 = .ok (.iload_n 1, 1) := by decide +kernel
theorem dX0_cricketCount_34 : decode cX0_cricketCount 34 = .ok (.ireturn, 1) := by decide +kernel
theorem dX0_wornInAll_0 : decode cX0_wornInAll 0 = .ok (.iconst 0, 1) := by decide +kernel
theorem dX0_wornInAll_1 : decode cX0_wornInAll 1 = .ok (.istore_n 1, 1) := by decide +kernel
theorem dX0_wornInAll_2 : decode cX0_wornInAll 2 = .ok (.iconst 0, 1) := by decide +kernel
theorem dX0_wornInAll_3 : decode cX0_wornInAll 3 = .ok (.istore_n 2, 1) := by decide +kernel
theorem dX0_wornInAll_4 : decode cX0_wornInAll 4 = .ok (.iload_n 2, 1) := by decide +kernel
theorem dX0_wornInAll_5 : decode cX0_wornInAll 5 = .ok (.bipush 12, 2) := by decide +kernel
theorem dX0_wornInAll_7 : decode cX0_wornInAll 7 = .ok (.if_icmp .ge 18, 3) := by decide +kernel
theorem dX0_wornInAll_10 : decode cX0_wornInAll 10 = .ok (.iload_n 1, 1) := by decide +kernel
theorem dX0_wornInAll_11 : decode cX0_wornInAll 11 = .ok (.aload_n 0, 1) := by decide +kernel
theorem dX0_wornInAll_12 : decode cX0_wornInAll 12 = .ok (.getfield 9, 3) := by decide +kernel
theorem dX0_wornInAll_15 : decode cX0_wornInAll 15 = .ok (.iload_n 2, 1) := by decide +kernel
theorem dX0_wornInAll_16 : decode cX0_wornInAll 16 = .ok (.iaload, 1) := by decide +kernel
theorem dX0_wornInAll_17 : decode cX0_wornInAll 17 = .ok (.iadd, 1) := by decide +kernel
theorem dX0_wornInAll_18 : decode cX0_wornInAll 18 = .ok (.istore_n 1, 1) := by decide +kernel
theorem dX0_wornInAll_19 : decode cX0_wornInAll 19 = .ok (.iinc 2 1, 3) := by decide +kernel
theorem dX0_wornInAll_22 : decode cX0_wornInAll 22 = .ok (.goto (-18), 3) := by decide +kernel
theorem dX0_wornInAll_25 : decode cX0_wornInAll 25 = .ok (.iload_n 1, 1) := by decide +kernel
theorem dX0_wornInAll_26 : decode cX0_wornInAll 26 = .ok (.ireturn, 1) := by decide +kernel
theorem dX0_offInAll_0 : decode cX0_offInAll 0 = .ok (.iconst 0, 1) := by decide +kernel
theorem dX0_offInAll_1 : decode cX0_offInAll 1 = .ok (.istore_n 1, 1) := by decide +kernel
theorem dX0_offInAll_2 : decode cX0_offInAll 2 = .ok (.iconst 0, 1) := by decide +kernel
theorem dX0_offInAll_3 : decode cX0_offInAll 3 = .ok (.istore_n 2, 1) := by decide +kernel
theorem dX0_offInAll_4 : decode cX0_offInAll 4 = .ok (.iload_n 2, 1) := by decide +kernel
theorem dX0_offInAll_5 : decode cX0_offInAll 5 = .ok (.bipush 12, 2) := by decide +kernel
theorem dX0_offInAll_7 : decode cX0_offInAll 7 = .ok (.if_icmp .ge 21, 3) := by decide +kernel
theorem dX0_offInAll_10 : decode cX0_offInAll 10 = .ok (.iload_n 1, 1) := by decide +kernel
theorem dX0_offInAll_11 : decode cX0_offInAll 11 = .ok (.aload_n 0, 1) := by decide +kernel
theorem dX0_offInAll_12 : decode cX0_offInAll 12 = .ok (.getfield 15, 3) := by decide +kernel
theorem dX0_offInAll_15 : decode cX0_offInAll 15 = .ok (.iload_n 2, 1) := by decide +kernel
theorem dX0_offInAll_16 : decode cX0_offInAll 16 = .ok (.iaload, 1) := by decide +kernel
theorem dX0_offInAll_17 : decode cX0_offInAll 17 = .ok (.invokestatic 25, 3) := by decide +kernel
theorem dX0_offInAll_20 : decode cX0_offInAll 20 = .ok (.iadd, 1) := by decide +kernel
theorem dX0_offInAll_21 : decode cX0_offInAll 21 = .ok (.istore_n 1, 1) := by decide +kernel
theorem dX0_offInAll_22 : decode cX0_offInAll 22 = .ok (.iinc 2 1, 3) := by decide +kernel
theorem dX0_offInAll_25 : decode cX0_offInAll 25 = .ok (.goto (-21), 3) := by decide +kernel
theorem dX0_offInAll_28 : decode cX0_offInAll 28 = .ok (.iload_n 1, 1) := by decide +kernel
theorem dX0_offInAll_29 : decode cX0_offInAll 29 = .ok (.ireturn, 1) := by decide +kernel
theorem dX0_sumUp_0 : decode cX0_sumUp 0 = .ok (.iload_n 1, 1) := by decide +kernel
theorem dX0_sumUp_1 : decode cX0_sumUp 1 = .ok (.lookupswitch 37 #[(5, 27), (6, 32)], 27) := by decide +kernel
theorem dX0_sumUp_28 : decode cX0_sumUp 28 = .ok (.aload_n 0, 1) := by decide +kernel
theorem dX0_sumUp_29 : decode cX0_sumUp 29 = .ok (.invokevirtual 42, 3) := by decide +kernel
theorem dX0_sumUp_32 : decode cX0_sumUp 32 = .ok (.ireturn, 1) := by decide +kernel
theorem dX0_sumUp_33 : decode cX0_sumUp 33 = .ok (.aload_n 0, 1) := by decide +kernel
theorem dX0_sumUp_34 : decode cX0_sumUp 34 = .ok (.invokevirtual 46, 3) := by decide +kernel
theorem dX0_sumUp_37 : decode cX0_sumUp 37 = .ok (.ireturn, 1) := by decide +kernel
theorem dX0_sumUp_38 : decode cX0_sumUp 38 = .ok (.aload_n 0, 1) := by decide +kernel
theorem dX0_sumUp_39 : decode cX0_sumUp 39 = .ok (.invokevirtual 49, 3) := by decide +kernel
theorem dX0_sumUp_42 : decode cX0_sumUp 42 = .ok (.ireturn, 1) := by decide +kernel
theorem dX0_tell_0 : decode cX0_tell 0 = .ok (.iload_n 2, 1) := by decide +kernel
theorem dX0_tell_1 : decode cX0_tell 1 = .ok (.tableswitch 66 0 3 #[31, 38, 45, 60], 31) := by decide +kernel
theorem dX0_tell_32 : decode cX0_tell 32 = .ok (.aload_n 0, 1) := by decide +kernel
theorem dX0_tell_33 : decode cX0_tell 33 = .ok (.getfield 9, 3) := by decide +kernel
theorem dX0_tell_36 : decode cX0_tell 36 = .ok (.iload_n 1, 1) := by decide +kernel
theorem dX0_tell_37 : decode cX0_tell 37 = .ok (.iaload, 1) := by decide +kernel
theorem dX0_tell_38 : decode cX0_tell 38 = .ok (.ireturn, 1) := by decide +kernel
theorem dX0_tell_39 : decode cX0_tell 39 = .ok (.aload_n 0, 1) := by decide +kernel
theorem dX0_tell_40 : decode cX0_tell 40 = .ok (.getfield 15, 3) := by decide +kernel
theorem dX0_tell_43 : decode cX0_tell 43 = .ok (.iload_n 1, 1) := by decide +kernel
theorem dX0_tell_44 : decode cX0_tell 44 = .ok (.iaload, 1) := by decide +kernel
theorem dX0_tell_45 : decode cX0_tell 45 = .ok (.ireturn, 1) := by decide +kernel
theorem dX0_tell_46 : decode cX0_tell 46 = .ok (.aload_n 0, 1) := by decide +kernel
theorem dX0_tell_47 : decode cX0_tell 47 = .ok (.getfield 18, 3) := by decide +kernel
theorem dX0_tell_50 : decode cX0_tell 50 = .ok (.iload_n 1, 1) := by decide +kernel
theorem dX0_tell_51 : decode cX0_tell 51 = .ok (.baload, 1) := by decide +kernel
theorem dX0_tell_52 : decode cX0_tell 52 = .ok (.ifCond .eq 7, 3) := by decide +kernel
theorem dX0_tell_55 : decode cX0_tell 55 = .ok (.iconst 1, 1) := by decide +kernel
theorem dX0_tell_56 : decode cX0_tell 56 = .ok (.goto 4, 3) := by decide +kernel
theorem dX0_tell_59 : decode cX0_tell 59 = .ok (.iconst 0, 1) := by decide +kernel
theorem dX0_tell_60 : decode cX0_tell 60 = .ok (.ireturn, 1) := by decide +kernel
theorem dX0_tell_61 : decode cX0_tell 61 = .ok (.aload_n 0, 1) := by decide +kernel
theorem dX0_tell_62 : decode cX0_tell 62 = .ok (.iload_n 1, 1) := by decide +kernel
theorem dX0_tell_63 : decode cX0_tell 63 = .ok (.invokevirtual 52, 3) := by decide +kernel
theorem dX0_tell_66 : decode cX0_tell 66 = .ok (.ireturn, 1) := by decide +kernel
theorem dX0_tell_67 : decode cX0_tell 67 = .ok (.aload_n 0, 1) := by decide +kernel
theorem dX0_tell_68 : decode cX0_tell 68 = .ok (.getfield 22, 3) := by decide +kernel
theorem dX0_tell_71 : decode cX0_tell 71 = .ok (.iload_n 1, 1) := by decide +kernel
theorem dX0_tell_72 : decode cX0_tell 72 = .ok (.baload, 1) := by decide +kernel
theorem dX0_tell_73 : decode cX0_tell 73 = .ok (.ifCond .eq 7, 3) := by decide +kernel
theorem dX0_tell_76 : decode cX0_tell 76 = .ok (.iconst 1, 1) := by decide +kernel
theorem dX0_tell_77 : decode cX0_tell 77 = .ok (.goto 4, 3) := by decide +kernel
theorem dX0_tell_80 : decode cX0_tell 80 = .ok (.iconst 0, 1) := by decide +kernel
theorem dX0_tell_81 : decode cX0_tell 81 = .ok (.ireturn, 1) := by decide +kernel
theorem dX1_init_0 : decode cX1_init 0 = .ok (.aload_n 0, 1) := by decide +kernel
theorem dX1_init_1 : decode cX1_init 1 = .ok (.invokespecial 3, 3) := by decide +kernel
theorem dX1_init_4 : decode cX1_init 4 = .ok (.aload_n 0, 1) := by decide +kernel
theorem dX1_init_5 : decode cX1_init 5 = .ok (.bipush 6, 2) := by decide +kernel
theorem dX1_init_7 : decode cX1_init 7 = .ok (.newarray .int, 2) := by decide +kernel
theorem dX1_init_9 : decode cX1_init 9 = .ok (.putfield 9, 3) := by decide +kernel
theorem dX1_init_12 : decode cX1_init 12 = .ok (.return_, 1) := by decide +kernel
theorem dX1_isPermittedOn_0 : decode cX1_isPermittedOn 0 = .ok (.aload_n 0, 1) := by decide +kernel
theorem dX1_isPermittedOn_1 : decode cX1_isPermittedOn 1 = .ok (.getfield 15, 3) := by decide +kernel
theorem dX1_isPermittedOn_4 : decode cX1_isPermittedOn 4 = .ok (.iload_n 1, 1) := by decide +kernel
theorem dX1_isPermittedOn_5 : decode cX1_isPermittedOn 5 = .ok (.ishr, 1) := by decide +kernel
theorem dX1_isPermittedOn_6 : decode cX1_isPermittedOn 6 = .ok (.iconst 1, 1) := by decide +kernel
theorem dX1_isPermittedOn_7 : decode cX1_isPermittedOn 7 = .ok (.iand, 1) := by decide +kernel
theorem dX1_isPermittedOn_8 : decode cX1_isPermittedOn 8 = .ok (.iconst 1, 1) := by decide +kernel
theorem dX1_isPermittedOn_9 : decode cX1_isPermittedOn 9 = .ok (.if_icmp .ne 7, 3) := by decide +kernel
theorem dX1_isPermittedOn_12 : decode cX1_isPermittedOn 12 = .ok (.iconst 1, 1) := by decide +kernel
theorem dX1_isPermittedOn_13 : decode cX1_isPermittedOn 13 = .ok (.goto 4, 3) := by decide +kernel
theorem dX1_isPermittedOn_16 : decode cX1_isPermittedOn 16 = .ok (.iconst 0, 1) := by decide +kernel
theorem dX1_isPermittedOn_17 : decode cX1_isPermittedOn 17 = .ok (.ireturn, 1) := by decide +kernel
theorem dX1_payFor_0 : decode cX1_payFor 0 = .ok (.aload_n 0, 1) := by decide +kernel
theorem dX1_payFor_1 : decode cX1_payFor 1 = .ok (.getfield 19, 3) := by decide +kernel
theorem dX1_payFor_4 : decode cX1_payFor 4 = .ok (.iload_n 2, 1) := by decide +kernel
theorem dX1_payFor_5 : decode cX1_payFor 5 = .ok (.imul, 1) := by decide +kernel
theorem dX1_payFor_6 : decode cX1_payFor 6 = .ok (.bipush 60, 2) := by decide +kernel
theorem dX1_payFor_8 : decode cX1_payFor 8 = .ok (.idiv, 1) := by decide +kernel
theorem dX1_payFor_9 : decode cX1_payFor 9 = .ok (.istore_n 3, 1) := by decide +kernel
theorem dX1_payFor_10 : decode cX1_payFor 10 = .ok (.iconst 0, 1) := by decide +kernel
theorem dX1_payFor_11 : decode cX1_payFor 11 = .ok (.istore 4, 2) := by decide +kernel
theorem dX1_payFor_13 : decode cX1_payFor 13 = .ok (.iload 4, 2) := by decide +kernel
theorem dX1_payFor_15 : decode cX1_payFor 15 = .ok (.aload_n 0, 1) := by decide +kernel
theorem dX1_payFor_16 : decode cX1_payFor 16 = .ok (.getfield 9, 3) := by decide +kernel
theorem dX1_payFor_19 : decode cX1_payFor 19 = .ok (.iload_n 1, 1) := by decide +kernel
theorem dX1_payFor_20 : decode cX1_payFor 20 = .ok (.iaload, 1) := by decide +kernel
theorem dX1_payFor_21 : decode cX1_payFor 21 = .ok (.if_icmp .ge 17, 3) := by decide +kernel
theorem dX1_payFor_24 : decode cX1_payFor 24 = .ok (.iload_n 3, 1) := by decide +kernel
theorem dX1_payFor_25 : decode cX1_payFor 25 = .ok (.ifCond .le 13, 3) := by decide +kernel
theorem dX1_payFor_28 : decode cX1_payFor 28 = .ok (.iload_n 3, 1) := by decide +kernel
theorem dX1_payFor_29 : decode cX1_payFor 29 = .ok (.iconst 2, 1) := by decide +kernel
theorem dX1_payFor_30 : decode cX1_payFor 30 = .ok (.idiv, 1) := by decide +kernel
theorem dX1_payFor_31 : decode cX1_payFor 31 = .ok (.istore_n 3, 1) := by decide +kernel
theorem dX1_payFor_32 : decode cX1_payFor 32 = .ok (.iinc 4 1, 3) := by decide +kernel
theorem dX1_payFor_35 : decode cX1_payFor 35 = .ok (.goto (-22), 3) := by decide +kernel
theorem dX1_payFor_38 : decode cX1_payFor 38 = .ok (.iload_n 3, 1) := by decide +kernel
theorem dX1_payFor_39 : decode cX1_payFor 39 = .ok (.ireturn, 1) := by decide +kernel
theorem dX1_forgetDay_0 : decode cX1_forgetDay 0 = .ok (.iconst 0, 1) := by decide +kernel
theorem dX1_forgetDay_1 : decode cX1_forgetDay 1 = .ok (.istore_n 1, 1) := by decide +kernel
theorem dX1_forgetDay_2 : decode cX1_forgetDay 2 = .ok (.iload_n 1, 1) := by decide +kernel
theorem dX1_forgetDay_3 : decode cX1_forgetDay 3 = .ok (.bipush 6, 2) := by decide +kernel
theorem dX1_forgetDay_5 : decode cX1_forgetDay 5 = .ok (.if_icmp .ge 16, 3) := by decide +kernel
theorem dX1_forgetDay_8 : decode cX1_forgetDay 8 = .ok (.aload_n 0, 1) := by decide +kernel
theorem dX1_forgetDay_9 : decode cX1_forgetDay 9 = .ok (.getfield 9, 3) := by decide +kernel
theorem dX1_forgetDay_12 : decode cX1_forgetDay 12 = .ok (.iload_n 1, 1) := by decide +kernel
theorem dX1_forgetDay_13 : decode cX1_forgetDay 13 = .ok (.iconst 0, 1) := by decide +kernel
theorem dX1_forgetDay_14 : decode cX1_forgetDay 14 = .ok (.iastore, 1) := by decide +kernel
theorem dX1_forgetDay_15 : decode cX1_forgetDay 15 = .ok (.iinc 1 1, 3) := by decide +kernel
theorem dX1_forgetDay_18 : decode cX1_forgetDay 18 = .ok (.goto (-16), 3) := by decide +kernel
theorem dX1_forgetDay_21 : decode cX1_forgetDay 21 = .ok (.return_, 1) := by decide +kernel
theorem dX1_heardInAll_0 : decode cX1_heardInAll 0 = .ok (.iconst 0, 1) := by decide +kernel
theorem dX1_heardInAll_1 : decode cX1_heardInAll 1 = .ok (.istore_n 1, 1) := by decide +kernel
theorem dX1_heardInAll_2 : decode cX1_heardInAll 2 = .ok (.iconst 0, 1) := by decide +kernel
theorem dX1_heardInAll_3 : decode cX1_heardInAll 3 = .ok (.istore_n 2, 1) := by decide +kernel
theorem dX1_heardInAll_4 : decode cX1_heardInAll 4 = .ok (.iload_n 2, 1) := by decide +kernel
theorem dX1_heardInAll_5 : decode cX1_heardInAll 5 = .ok (.bipush 6, 2) := by decide +kernel
theorem dX1_heardInAll_7 : decode cX1_heardInAll 7 = .ok (.if_icmp .ge 18, 3) := by decide +kernel
theorem dX1_heardInAll_10 : decode cX1_heardInAll 10 = .ok (.iload_n 1, 1) := by decide +kernel
theorem dX1_heardInAll_11 : decode cX1_heardInAll 11 = .ok (.aload_n 0, 1) := by decide +kernel
theorem dX1_heardInAll_12 : decode cX1_heardInAll 12 = .ok (.getfield 9, 3) := by decide +kernel
theorem dX1_heardInAll_15 : decode cX1_heardInAll 15 = .ok (.iload_n 2, 1) := by decide +kernel
theorem dX1_heardInAll_16 : decode cX1_heardInAll 16 = .ok (.iaload, 1) := by decide +kernel
theorem dX1_heardInAll_17 : decode cX1_heardInAll 17 = .ok (.iadd, 1) := by decide +kernel
theorem dX1_heardInAll_18 : decode cX1_heardInAll 18 = .ok (.istore_n 1, 1) := by decide +kernel
theorem dX1_heardInAll_19 : decode cX1_heardInAll 19 = .ok (.iinc 2 1, 3) := by decide +kernel
theorem dX1_heardInAll_22 : decode cX1_heardInAll 22 = .ok (.goto (-18), 3) := by decide +kernel
theorem dX1_heardInAll_25 : decode cX1_heardInAll 25 = .ok (.iload_n 1, 1) := by decide +kernel
theorem dX1_heardInAll_26 : decode cX1_heardInAll 26 = .ok (.ireturn, 1) := by decide +kernel
theorem dX1_tell_0 : decode cX1_tell 0 = .ok (.iload_n 1, 1) := by decide +kernel
theorem dX1_tell_1 : decode cX1_tell 1 = .ok (.tableswitch 60 0 3 #[31, 36, 41, 55], 31) := by decide +kernel
theorem dX1_tell_32 : decode cX1_tell 32 = .ok (.aload_n 0, 1) := by decide +kernel
theorem dX1_tell_33 : decode cX1_tell 33 = .ok (.getfield 19, 3) := by decide +kernel
theorem dX1_tell_36 : decode cX1_tell 36 = .ok (.ireturn, 1) := by decide +kernel
theorem dX1_tell_37 : decode cX1_tell 37 = .ok (.aload_n 0, 1) := by decide +kernel
theorem dX1_tell_38 : decode cX1_tell 38 = .ok (.getfield 15, 3) := by decide +kernel
theorem dX1_tell_41 : decode cX1_tell 41 = .ok (.ireturn, 1) := by decide +kernel
theorem dX1_tell_42 : decode cX1_tell 42 = .ok (.aload_n 0, 1) := by decide +kernel
theorem dX1_tell_43 : decode cX1_tell 43 = .ok (.iload_n 2, 1) := by decide +kernel
theorem dX1_tell_44 : decode cX1_tell 44 = .ok (.invokevirtual 22, 3) := by decide +kernel
theorem dX1_tell_47 : decode cX1_tell 47 = .ok (.ifCond .eq 7, 3) := by decide +kernel
theorem dX1_tell_50 : decode cX1_tell 50 = .ok (.iconst 1, 1) := by decide +kernel
theorem dX1_tell_51 : decode cX1_tell 51 = .ok (.goto 4, 3) := by decide +kernel
theorem dX1_tell_54 : decode cX1_tell 54 = .ok (.iconst 0, 1) := by decide +kernel
theorem dX1_tell_55 : decode cX1_tell 55 = .ok (.ireturn, 1) := by decide +kernel
theorem dX1_tell_56 : decode cX1_tell 56 = .ok (.aload_n 0, 1) := by decide +kernel
theorem dX1_tell_57 : decode cX1_tell 57 = .ok (.getfield 26, 3) := by decide +kernel
theorem dX1_tell_60 : decode cX1_tell 60 = .ok (.ireturn, 1) := by decide +kernel
theorem dX1_tell_61 : decode cX1_tell 61 = .ok (.aload_n 0, 1) := by decide +kernel
theorem dX1_tell_62 : decode cX1_tell 62 = .ok (.invokevirtual 29, 3) := by decide +kernel
theorem dX1_tell_65 : decode cX1_tell 65 = .ok (.ireturn, 1) := by decide +kernel
theorem dX2_init_0 : decode cX2_init 0 = .ok (.aload_n 0, 1) := by decide +kernel
theorem dX2_init_1 : decode cX2_init 1 = .ok (.invokespecial 3, 3) := by decide +kernel
theorem dX2_init_4 : decode cX2_init 4 = .ok (.aload_n 0, 1) := by decide +kernel
theorem dX2_init_5 : decode cX2_init 5 = .ok (.bipush 16, 2) := by decide +kernel
theorem dX2_init_7 : decode cX2_init 7 = .ok (.newarray .int, 2) := by decide +kernel
theorem dX2_init_9 : decode cX2_init 9 = .ok (.putfield 9, 3) := by decide +kernel
theorem dX2_init_12 : decode cX2_init 12 = .ok (.aload_n 0, 1) := by decide +kernel
theorem dX2_init_13 : decode cX2_init 13 = .ok (.bipush 12, 2) := by decide +kernel
theorem dX2_init_15 : decode cX2_init 15 = .ok (.newarray .int, 2) := by decide +kernel
theorem dX2_init_17 : decode cX2_init 17 = .ok (.putfield 15, 3) := by decide +kernel
theorem dX2_init_20 : decode cX2_init 20 = .ok (.return_, 1) := by decide +kernel
theorem dX2_append_0 : decode cX2_append 0 = .ok (.aload_n 0, 1) := by decide +kernel
theorem dX2_append_1 : decode cX2_append 1 = .ok (.getfield 9, 3) := by decide +kernel
theorem dX2_append_4 : decode cX2_append 4 = .ok (.aload_n 0, 1) := by decide +kernel
theorem dX2_append_5 : decode cX2_append 5 = .ok (.getfield 18, 3) := by decide +kernel
theorem dX2_append_8 : decode cX2_append 8 = .ok (.iload_n 1, 1) := by decide +kernel
theorem dX2_append_9 : decode cX2_append 9 = .ok (.iastore, 1) := by decide +kernel
theorem dX2_append_10 : decode cX2_append 10 = .ok (.aload_n 0, 1) := by decide +kernel
theorem dX2_append_11 : decode cX2_append 11 = .ok (.getfield 15, 3) := by decide +kernel
theorem dX2_append_14 : decode cX2_append 14 = .ok (.iload_n 1, 1) := by decide +kernel
theorem dX2_append_15 : decode cX2_append 15 = .ok (.dup2, 1) := by decide +kernel
theorem dX2_append_16 : decode cX2_append 16 = .ok (.iaload, 1) := by decide +kernel
theorem dX2_append_17 : decode cX2_append 17 = .ok (.iconst 1, 1) := by decide +kernel
theorem dX2_append_18 : decode cX2_append 18 = .ok (.iadd, 1) := by decide +kernel
theorem dX2_append_19 : decode cX2_append 19 = .ok (.iastore, 1) := by decide +kernel
theorem dX2_append_20 : decode cX2_append 20 = .ok (.aload_n 0, 1) := by decide +kernel
theorem dX2_append_21 : decode cX2_append 21 = .ok (.dup, 1) := by decide +kernel
theorem dX2_append_22 : decode cX2_append 22 = .ok (.getfield 18, 3) := by decide +kernel
theorem dX2_append_25 : decode cX2_append 25 = .ok (.iconst 1, 1) := by decide +kernel
theorem dX2_append_26 : decode cX2_append 26 = .ok (.iadd, 1) := by decide +kernel
theorem dX2_append_27 : decode cX2_append 27 = .ok (.putfield 18, 3) := by decide +kernel
theorem dX2_append_30 : decode cX2_append 30 = .ok (.aload_n 0, 1) := by decide +kernel
theorem dX2_append_31 : decode cX2_append 31 = .ok (.getfield 18, 3) := by decide +kernel
theorem dX2_append_34 : decode cX2_append 34 = .ok (.ireturn, 1) := by decide +kernel
theorem dX2_soundOf_0 : decode cX2_soundOf 0 = .ok (.aload_n 0, 1) := by decide +kernel
theorem dX2_soundOf_1 : decode cX2_soundOf 1 = .ok (.aload_n 1, 1) := by decide +kernel
theorem dX2_soundOf_2 : decode cX2_soundOf 2 = .ok (.iconst (-1), 1) := by decide +kernel
theorem dX2_soundOf_3 : decode cX2_soundOf 3 = .ok (.invokevirtual 22, 3) := by decide +kernel
theorem dX2_soundOf_6 : decode cX2_soundOf 6 = .ok (.ireturn, 1) := by decide +kernel
theorem dX2_soundSparing_0 : decode cX2_soundSparing 0 = .ok (.aload_n 0, 1) := by decide +kernel
theorem dX2_soundSparing_1 : decode cX2_soundSparing 1 = .ok (.getfield 18, 3) := by decide +kernel
theorem dX2_soundSparing_4 : decode cX2_soundSparing 4 = .ok (.ifCond .ne 5, 3) := by decide +kernel
theorem dX2_soundSparing_7 : decode cX2_soundSparing 7 = .ok (.iconst 0, 1) := by decide +kernel
theorem dX2_soundSparing_8 : decode cX2_soundSparing 8 = .ok (.ireturn, 1) := by decide +kernel
theorem dX2_soundSparing_9 : decode cX2_soundSparing 9 = .ok (.iconst 0, 1) := by decide +kernel
theorem dX2_soundSparing_10 : decode cX2_soundSparing 10 = .ok (.istore_n 3, 1) := by decide +kernel
theorem dX2_soundSparing_11 : decode cX2_soundSparing 11 = .ok (.iconst 0, 1) := by decide +kernel
theorem dX2_soundSparing_12 : decode cX2_soundSparing 12 = .ok (.istore 4, 2) := by decide +kernel
theorem dX2_soundSparing_14 : decode cX2_soundSparing 14 = .ok (.iload 4, 2) := by decide +kernel
theorem dX2_soundSparing_16 : decode cX2_soundSparing 16 = .ok (.bipush 12, 2) := by decide +kernel
theorem dX2_soundSparing_18 : decode cX2_soundSparing 18 = .ok (.if_icmp .ge 32, 3) := by decide +kernel
theorem dX2_soundSparing_21 : decode cX2_soundSparing 21 = .ok (.iload 4, 2) := by decide +kernel
theorem dX2_soundSparing_23 : decode cX2_soundSparing 23 = .ok (.iload_n 2, 1) := by decide +kernel
theorem dX2_soundSparing_24 : decode cX2_soundSparing 24 = .ok (.if_icmp .eq 20, 3) := by decide +kernel
theorem dX2_soundSparing_27 : decode cX2_soundSparing 27 = .ok (.iload_n 3, 1) := by decide +kernel
theorem dX2_soundSparing_28 : decode cX2_soundSparing 28 = .ok (.aload_n 0, 1) := by decide +kernel
theorem dX2_soundSparing_29 : decode cX2_soundSparing 29 = .ok (.getfield 15, 3) := by decide +kernel
theorem dX2_soundSparing_32 : decode cX2_soundSparing 32 = .ok (.iload 4, 2) := by decide +kernel
theorem dX2_soundSparing_34 : decode cX2_soundSparing 34 = .ok (.iaload, 1) := by decide +kernel
theorem dX2_soundSparing_35 : decode cX2_soundSparing 35 = .ok (.aload_n 1, 1) := by decide +kernel
theorem dX2_soundSparing_36 : decode cX2_soundSparing 36 = .ok (.iload 4, 2) := by decide +kernel
theorem dX2_soundSparing_38 : decode cX2_soundSparing 38 = .ok (.invokevirtual 26, 3) := by decide +kernel
theorem dX2_soundSparing_41 : decode cX2_soundSparing 41 = .ok (.imul, 1) := by decide +kernel
theorem dX2_soundSparing_42 : decode cX2_soundSparing 42 = .ok (.iadd, 1) := by decide +kernel
theorem dX2_soundSparing_43 : decode cX2_soundSparing 43 = .ok (.istore_n 3, 1) := by decide +kernel
theorem dX2_soundSparing_44 : decode cX2_soundSparing 44 = .ok (.iinc 4 1, 3) := by decide +kernel
theorem dX2_soundSparing_47 : decode cX2_soundSparing 47 = .ok (.goto (-33), 3) := by decide +kernel
theorem dX2_soundSparing_50 : decode cX2_soundSparing 50 = .ok (.bipush 60, 2) := by decide +kernel
theorem dX2_soundSparing_52 : decode cX2_soundSparing 52 = .ok (.iload_n 3, 1) := by decide +kernel
theorem dX2_soundSparing_53 : decode cX2_soundSparing 53 = .ok (.aload_n 0, 1) := by decide +kernel
theorem dX2_soundSparing_54 : decode cX2_soundSparing 54 = .ok (.getfield 18, 3) := by decide +kernel
theorem dX2_soundSparing_57 : decode cX2_soundSparing 57 = .ok (.idiv, 1) := by decide +kernel
theorem dX2_soundSparing_58 : decode cX2_soundSparing 58 = .ok (.isub, 1) := by decide +kernel
theorem dX2_soundSparing_59 : decode cX2_soundSparing 59 = .ok (.ireturn, 1) := by decide +kernel
theorem dX2_wearDown_0 : decode cX2_wearDown 0 = .ok (.iconst 0, 1) := by decide +kernel
theorem dX2_wearDown_1 : decode cX2_wearDown 1 = .ok (.istore_n 2, 1) := by decide +kernel
theorem dX2_wearDown_2 : decode cX2_wearDown 2 = .ok (.iload_n 2, 1) := by decide +kernel
theorem dX2_wearDown_3 : decode cX2_wearDown 3 = .ok (.bipush 12, 2) := by decide +kernel
theorem dX2_wearDown_5 : decode cX2_wearDown 5 = .ok (.if_icmp .ge 29, 3) := by decide +kernel
theorem dX2_wearDown_8 : decode cX2_wearDown 8 = .ok (.aload_n 0, 1) := by decide +kernel
theorem dX2_wearDown_9 : decode cX2_wearDown 9 = .ok (.getfield 15, 3) := by decide +kernel
theorem dX2_wearDown_12 : decode cX2_wearDown 12 = .ok (.iload_n 2, 1) := by decide +kernel
theorem dX2_wearDown_13 : decode cX2_wearDown 13 = .ok (.iaload, 1) := by decide +kernel
theorem dX2_wearDown_14 : decode cX2_wearDown 14 = .ok (.ifCond .le 14, 3) := by decide +kernel
theorem dX2_wearDown_17 : decode cX2_wearDown 17 = .ok (.aload_n 1, 1) := by decide +kernel
theorem dX2_wearDown_18 : decode cX2_wearDown 18 = .ok (.iload_n 2, 1) := by decide +kernel
theorem dX2_wearDown_19 : decode cX2_wearDown 19 = .ok (.aload_n 0, 1) := by decide +kernel
theorem dX2_wearDown_20 : decode cX2_wearDown 20 = .ok (.getfield 15, 3) := by decide +kernel
theorem dX2_wearDown_23 : decode cX2_wearDown 23 = .ok (.iload_n 2, 1) := by decide +kernel
theorem dX2_wearDown_24 : decode cX2_wearDown 24 = .ok (.iaload, 1) := by decide +kernel
theorem dX2_wearDown_25 : decode cX2_wearDown 25 = .ok (.invokevirtual 32, 3) := by decide +kernel
theorem dX2_wearDown_28 : decode cX2_wearDown 28 = .ok (.iinc 2 1, 3) := by decide +kernel
theorem dX2_wearDown_31 : decode cX2_wearDown 31 = .ok (.goto (-29), 3) := by decide +kernel
theorem dX2_wearDown_34 : decode cX2_wearDown 34 = .ok (.return_, 1) := by decide +kernel
theorem dX3_init_0 : decode cX3_init 0 = .ok (.aload_n 0, 1) := by decide +kernel
theorem dX3_init_1 : decode cX3_init 1 = .ok (.invokespecial 1, 3) := by decide +kernel
theorem dX3_init_4 : decode cX3_init 4 = .ok (.aload_n 0, 1) := by decide +kernel
theorem dX3_init_5 : decode cX3_init 5 = .ok (.new 7, 3) := by decide +kernel
theorem dX3_init_8 : decode cX3_init 8 = .ok (.dup, 1) := by decide +kernel
theorem dX3_init_9 : decode cX3_init 9 = .ok (.invokespecial 9, 3) := by decide +kernel
theorem dX3_init_12 : decode cX3_init 12 = .ok (.putfield 10, 3) := by decide +kernel
theorem dX3_init_15 : decode cX3_init 15 = .ok (.aload_n 0, 1) := by decide +kernel
theorem dX3_init_16 : decode cX3_init 16 = .ok (.new 7, 3) := by decide +kernel
theorem dX3_init_19 : decode cX3_init 19 = .ok (.dup, 1) := by decide +kernel
theorem dX3_init_20 : decode cX3_init 20 = .ok (.invokespecial 9, 3) := by decide +kernel
theorem dX3_init_23 : decode cX3_init 23 = .ok (.putfield 16, 3) := by decide +kernel
theorem dX3_init_26 : decode cX3_init 26 = .ok (.aload_n 0, 1) := by decide +kernel
theorem dX3_init_27 : decode cX3_init 27 = .ok (.bipush 6, 2) := by decide +kernel
theorem dX3_init_29 : decode cX3_init 29 = .ok (.anewarray 19, 3) := by decide +kernel
theorem dX3_init_32 : decode cX3_init 32 = .ok (.putfield 21, 3) := by decide +kernel
theorem dX3_init_35 : decode cX3_init 35 = .ok (.iconst 0, 1) := by decide +kernel
theorem dX3_init_36 : decode cX3_init 36 = .ok (.istore_n 1, 1) := by decide +kernel
theorem dX3_init_37 : decode cX3_init 37 = .ok (.iload_n 1, 1) := by decide +kernel
theorem dX3_init_38 : decode cX3_init 38 = .ok (.bipush 6, 2) := by decide +kernel
theorem dX3_init_40 : decode cX3_init 40 = .ok (.if_icmp .ge 22, 3) := by decide +kernel
theorem dX3_init_43 : decode cX3_init 43 = .ok (.aload_n 0, 1) := by decide +kernel
theorem dX3_init_44 : decode cX3_init 44 = .ok (.getfield 21, 3) := by decide +kernel
theorem dX3_init_47 : decode cX3_init 47 = .ok (.iload_n 1, 1) := by decide +kernel
theorem dX3_init_48 : decode cX3_init 48 = .ok (.new 19, 3) := by decide +kernel
theorem dX3_init_51 : decode cX3_init 51 = .ok (.dup, 1) := by decide +kernel
theorem dX3_init_52 : decode cX3_init 52 = .ok (.invokespecial 25, 3) := by decide +kernel
theorem dX3_init_55 : decode cX3_init 55 = .ok (.aastore, 1) := by decide +kernel
theorem dX3_init_56 : decode cX3_init 56 = .ok (.iinc 1 1, 3) := by decide +kernel
theorem dX3_init_59 : decode cX3_init 59 = .ok (.goto (-22), 3) := by decide +kernel
theorem dX3_init_62 : decode cX3_init 62 = .ok (.aload_n 0, 1) := by decide +kernel
theorem dX3_init_63 : decode cX3_init 63 = .ok (.bipush 8, 2) := by decide +kernel
theorem dX3_init_65 : decode cX3_init 65 = .ok (.anewarray 26, 3) := by decide +kernel
theorem dX3_init_68 : decode cX3_init 68 = .ok (.putfield 28, 3) := by decide +kernel
theorem dX3_init_71 : decode cX3_init 71 = .ok (.iconst 0, 1) := by decide +kernel
theorem dX3_init_72 : decode cX3_init 72 = .ok (.istore_n 1, 1) := by decide +kernel
theorem dX3_init_73 : decode cX3_init 73 = .ok (.iload_n 1, 1) := by decide +kernel
theorem dX3_init_74 : decode cX3_init 74 = .ok (.bipush 8, 2) := by decide +kernel
theorem dX3_init_76 : decode cX3_init 76 = .ok (.if_icmp .ge 22, 3) := by decide +kernel
theorem dX3_init_79 : decode cX3_init 79 = .ok (.aload_n 0, 1) := by decide +kernel
theorem dX3_init_80 : decode cX3_init 80 = .ok (.getfield 28, 3) := by decide +kernel
theorem dX3_init_83 : decode cX3_init 83 = .ok (.iload_n 1, 1) := by decide +kernel
theorem dX3_init_84 : decode cX3_init 84 = .ok (.new 26, 3) := by decide +kernel
theorem dX3_init_87 : decode cX3_init 87 = .ok (.dup, 1) := by decide +kernel
theorem dX3_init_88 : decode cX3_init 88 = .ok (.invokespecial 32, 3) := by decide +kernel
theorem dX3_init_91 : decode cX3_init 91 = .ok (.aastore, 1) := by decide +kernel
theorem dX3_init_92 : decode cX3_init 92 = .ok (.iinc 1 1, 3) := by decide +kernel
theorem dX3_init_95 : decode cX3_init 95 = .ok (.goto (-22), 3) := by decide +kernel
theorem dX3_init_98 : decode cX3_init 98 = .ok (.aload_n 0, 1) := by decide +kernel
theorem dX3_init_99 : decode cX3_init 99 = .ok (.bipush 7, 2) := by decide +kernel
theorem dX3_init_101 : decode cX3_init 101 = .ok (.newarray .int, 2) := by decide +kernel
theorem dX3_init_103 : decode cX3_init 103 = .ok (.putfield 33, 3) := by decide +kernel
theorem dX3_init_106 : decode cX3_init 106 = .ok (.aload_n 0, 1) := by decide +kernel
theorem dX3_init_107 : decode cX3_init 107 = .ok (.bipush 20, 2) := by decide +kernel
theorem dX3_init_109 : decode cX3_init 109 = .ok (.putfield 37, 3) := by decide +kernel
theorem dX3_init_112 : decode cX3_init 112 = .ok (.return_, 1) := by decide +kernel
theorem dX3_barrel_0 : decode cX3_barrel 0 = .ok (.aload_n 0, 1) := by decide +kernel
theorem dX3_barrel_1 : decode cX3_barrel 1 = .ok (.getfield 41, 3) := by decide +kernel
theorem dX3_barrel_4 : decode cX3_barrel 4 = .ok (.bipush 6, 2) := by decide +kernel
theorem dX3_barrel_6 : decode cX3_barrel 6 = .ok (.if_icmp .lt 13, 3) := by decide +kernel
theorem dX3_barrel_9 : decode cX3_barrel 9 = .ok (.new 44, 3) := by decide +kernel
theorem dX3_barrel_12 : decode cX3_barrel 12 = .ok (.dup, 1) := by decide +kernel
theorem dX3_barrel_13 : decode cX3_barrel 13 = .ok (.ldc 46, 2) := by decide +kernel
theorem dX3_barrel_15 : decode cX3_barrel 15 = .ok (.invokespecial 48, 3) := by decide +kernel
theorem dX3_barrel_18 : decode cX3_barrel 18 = .ok (.athrow, 1) := by decide +kernel
theorem dX3_barrel_19 : decode cX3_barrel 19 = .ok (.aload_n 0, 1) := by decide +kernel
theorem dX3_barrel_20 : decode cX3_barrel 20 = .ok (.dup, 1) := by decide +kernel
theorem dX3_barrel_21 : decode cX3_barrel 21 = .ok (.getfield 41, 3) := by decide +kernel
theorem dX3_barrel_24 : decode cX3_barrel 24 = .ok (.dup_x1, 1) := by decide +kernel
theorem dX3_barrel_25 : decode cX3_barrel 25 = .ok (.iconst 1, 1) := by decide +kernel
theorem dX3_barrel_26 : decode cX3_barrel 26 = .ok (.iadd, 1) := by decide +kernel
theorem dX3_barrel_27 : decode cX3_barrel 27 = .ok (.putfield 41, 3) := by decide +kernel
theorem dX3_barrel_30 : decode cX3_barrel 30 = .ok (.ireturn, 1) := by decide +kernel
theorem dX3_pin_0 : decode cX3_pin 0 = .ok (.aload_n 0, 1) := by decide +kernel
theorem dX3_pin_1 : decode cX3_pin 1 = .ok (.iload_n 1, 1) := by decide +kernel
theorem dX3_pin_2 : decode cX3_pin 2 = .ok (.invokevirtual 51, 3) := by decide +kernel
theorem dX3_pin_5 : decode cX3_pin 5 = .ok (.iload_n 2, 1) := by decide +kernel
theorem dX3_pin_6 : decode cX3_pin 6 = .ok (.invokestatic 55, 3) := by decide +kernel
theorem dX3_pin_9 : decode cX3_pin 9 = .ok (.aload_n 0, 1) := by decide +kernel
theorem dX3_pin_10 : decode cX3_pin 10 = .ok (.getfield 21, 3) := by decide +kernel
theorem dX3_pin_13 : decode cX3_pin 13 = .ok (.iload_n 1, 1) := by decide +kernel
theorem dX3_pin_14 : decode cX3_pin 14 = .ok (.aaload, 1) := by decide +kernel
theorem dX3_pin_15 : decode cX3_pin 15 = .ok (.getfield 58, 3) := by decide +kernel
theorem dX3_pin_18 : decode cX3_pin 18 = .ok (.bipush 16, 2) := by decide +kernel
theorem dX3_pin_20 : decode cX3_pin 20 = .ok (.if_icmp .lt 13, 3) := by decide +kernel
theorem dX3_pin_23 : decode cX3_pin 23 = .ok (.new 44, 3) := by decide +kernel
theorem dX3_pin_26 : decode cX3_pin 26 = .ok (.dup, 1) := by decide +kernel
theorem dX3_pin_27 : decode cX3_pin 27 = .ok (.ldc 61, 2) := by decide +kernel
theorem dX3_pin_29 : decode cX3_pin 29 = .ok (.invokespecial 48, 3) := by decide +kernel
theorem dX3_pin_32 : decode cX3_pin 32 = .ok (.athrow, 1) := by decide +kernel
theorem dX3_pin_33 : decode cX3_pin 33 = .ok (.aload_n 0, 1) := by decide +kernel
theorem dX3_pin_34 : decode cX3_pin 34 = .ok (.getfield 21, 3) := by decide +kernel
theorem dX3_pin_37 : decode cX3_pin 37 = .ok (.iload_n 1, 1) := by decide +kernel
theorem dX3_pin_38 : decode cX3_pin 38 = .ok (.aaload, 1) := by decide +kernel
theorem dX3_pin_39 : decode cX3_pin 39 = .ok (.iload_n 2, 1) := by decide +kernel
theorem dX3_pin_40 : decode cX3_pin 40 = .ok (.invokevirtual 63, 3) := by decide +kernel
theorem dX3_pin_43 : decode cX3_pin 43 = .ok (.ireturn, 1) := by decide +kernel
theorem dX3_note_0 : decode cX3_note 0 = .ok (.aload_n 0, 1) := by decide +kernel
theorem dX3_note_1 : decode cX3_note 1 = .ok (.iload_n 1, 1) := by decide +kernel
theorem dX3_note_2 : decode cX3_note 2 = .ok (.invokevirtual 51, 3) := by decide +kernel
theorem dX3_note_5 : decode cX3_note 5 = .ok (.iload_n 2, 1) := by decide +kernel
theorem dX3_note_6 : decode cX3_note 6 = .ok (.ifCond .lt 16, 3) := by decide +kernel
theorem dX3_note_9 : decode cX3_note 9 = .ok (.iload_n 2, 1) := by decide +kernel
theorem dX3_note_10 : decode cX3_note 10 = .ok (.aload_n 0, 1) := by decide +kernel
theorem dX3_note_11 : decode cX3_note 11 = .ok (.getfield 21, 3) := by decide +kernel
theorem dX3_note_14 : decode cX3_note 14 = .ok (.iload_n 1, 1) := by decide +kernel
theorem dX3_note_15 : decode cX3_note 15 = .ok (.aaload, 1) := by decide +kernel
theorem dX3_note_16 : decode cX3_note 16 = .ok (.getfield 58, 3) := by decide +kernel
theorem dX3_note_19 : decode cX3_note 19 = .ok (.if_icmp .lt 13, 3) := by decide +kernel
theorem dX3_note_22 : decode cX3_note 22 = .ok (.new 67, 3) := by decide +kernel
theorem dX3_note_25 : decode cX3_note 25 = .ok (.dup, 1) := by decide +kernel
theorem dX3_note_26 : decode cX3_note 26 = .ok (.ldc 69, 2) := by decide +kernel
theorem dX3_note_28 : decode cX3_note 28 = .ok (.invokespecial 71, 3) := by decide +kernel
theorem dX3_note_31 : decode cX3_note 31 = .ok (.athrow, 1) := by decide +kernel
theorem dX3_note_32 : decode cX3_note 32 = .ok (.aload_n 0, 1) := by decide +kernel
theorem dX3_note_33 : decode cX3_note 33 = .ok (.getfield 21, 3) := by decide +kernel
theorem dX3_note_36 : decode cX3_note 36 = .ok (.iload_n 1, 1) := by decide +kernel
theorem dX3_note_37 : decode cX3_note 37 = .ok (.aaload, 1) := by decide +kernel
theorem dX3_note_38 : decode cX3_note 38 = .ok (.getfield 72, 3) := by decide +kernel
theorem dX3_note_41 : decode cX3_note 41 = .ok (.iload_n 2, 1) := by decide +kernel
theorem dX3_note_42 : decode cX3_note 42 = .ok (.iaload, 1) := by decide +kernel
theorem dX3_note_43 : decode cX3_note 43 = .ok (.ireturn, 1) := by decide +kernel
theorem dX3_street_0 : decode cX3_street 0 = .ok (.iload_n 1, 1) := by decide +kernel
theorem dX3_street_1 : decode cX3_street 1 = .ok (.ifCond .lt 9, 3) := by decide +kernel
theorem dX3_street_4 : decode cX3_street 4 = .ok (.iload_n 1, 1) := by decide +kernel
theorem dX3_street_5 : decode cX3_street 5 = .ok (.bipush 90, 2) := by decide +kernel
theorem dX3_street_7 : decode cX3_street 7 = .ok (.if_icmp .le 13, 3) := by decide +kernel
theorem dX3_street_10 : decode cX3_street 10 = .ok (.new 75, 3) := by decide +kernel
theorem dX3_street_13 : decode cX3_street 13 = .ok (.dup, 1) := by decide +kernel
theorem dX3_street_14 : decode cX3_street 14 = .ok (.ldc 77, 2) := by decide +kernel
theorem dX3_street_16 : decode cX3_street 16 = .ok (.invokespecial 79, 3) := by decide +kernel
theorem dX3_street_19 : decode cX3_street 19 = .ok (.athrow, 1) := by decide +kernel
theorem dX3_street_20 : decode cX3_street 20 = .ok (.iload_n 2, 1) := by decide +kernel
theorem dX3_street_21 : decode cX3_street 21 = .ok (.invokestatic 80, 3) := by decide +kernel
theorem dX3_street_24 : decode cX3_street 24 = .ok (.aload_n 0, 1) := by decide +kernel
theorem dX3_street_25 : decode cX3_street 25 = .ok (.getfield 83, 3) := by decide +kernel
theorem dX3_street_28 : decode cX3_street 28 = .ok (.bipush 8, 2) := by decide +kernel
theorem dX3_street_30 : decode cX3_street 30 = .ok (.if_icmp .lt 13, 3) := by decide +kernel
theorem dX3_street_33 : decode cX3_street 33 = .ok (.new 44, 3) := by decide +kernel
theorem dX3_street_36 : decode cX3_street 36 = .ok (.dup, 1) := by decide +kernel
theorem dX3_street_37 : decode cX3_street 37 = .ok (.ldc 86, 2) := by decide +kernel
theorem dX3_street_39 : decode cX3_street 39 = .ok (.invokespecial 48, 3) := by decide +kernel
theorem dX3_street_42 : decode cX3_street 42 = .ok (.athrow, 1) := by decide +kernel
theorem dX3_street_43 : decode cX3_street 43 = .ok (.aload_n 0, 1) := by decide +kernel
theorem dX3_street_44 : decode cX3_street 44 = .ok (.getfield 28, 3) := by decide +kernel
theorem dX3_street_47 : decode cX3_street 47 = .ok (.aload_n 0, 1) := by decide +kernel
theorem dX3_street_48 : decode cX3_street 48 = .ok (.getfield 83, 3) := by decide +kernel
theorem dX3_street_51 : decode cX3_street 51 = .ok (.aaload, 1) := by decide +kernel
theorem dX3_street_52 : decode cX3_street 52 = .ok (.iload_n 1, 1) := by decide +kernel
theorem dX3_street_53 : decode cX3_street 53 = .ok (.putfield 88, 3) := by decide +kernel
theorem dX3_street_56 : decode cX3_street 56 = .ok (.aload_n 0, 1) := by decide +kernel
theorem dX3_street_57 : decode cX3_street 57 = .ok (.getfield 28, 3) := by decide +kernel
theorem dX3_street_60 : decode cX3_street 60 = .ok (.aload_n 0, 1) := by decide +kernel
theorem dX3_street_61 : decode cX3_street 61 = .ok (.getfield 83, 3) := by decide +kernel
theorem dX3_street_64 : decode cX3_street 64 = .ok (.aaload, 1) := by decide +kernel
theorem dX3_street_65 : decode cX3_street 65 = .ok (.iload_n 2, 1) := by decide +kernel
theorem dX3_street_66 : decode cX3_street 66 = .ok (.putfield 91, 3) := by decide +kernel
theorem dX3_street_69 : decode cX3_street 69 = .ok (.aload_n 0, 1) := by decide +kernel
theorem dX3_street_70 : decode cX3_street 70 = .ok (.dup, 1) := by decide +kernel
theorem dX3_street_71 : decode cX3_street 71 = .ok (.getfield 83, 3) := by decide +kernel
theorem dX3_street_74 : decode cX3_street 74 = .ok (.dup_x1, 1) := by decide +kernel
theorem dX3_street_75 : decode cX3_street 75 = .ok (.iconst 1, 1) := by decide +kernel
theorem dX3_street_76 : decode cX3_street 76 = .ok (.iadd, 1) := by decide +kernel
theorem dX3_street_77 : decode cX3_street 77 = .ok (.putfield 83, 3) := by decide +kernel
theorem dX3_street_80 : decode cX3_street 80 = .ok (.ireturn, 1) := by decide +kernel
theorem dX3_permit_0 : decode cX3_permit 0 = .ok (.aload_n 0, 1) := by decide +kernel
theorem dX3_permit_1 : decode cX3_permit 1 = .ok (.iload_n 1, 1) := by decide +kernel
theorem dX3_permit_2 : decode cX3_permit 2 = .ok (.invokevirtual 94, 3) := by decide +kernel
theorem dX3_permit_5 : decode cX3_permit 5 = .ok (.iload_n 2, 1) := by decide +kernel
theorem dX3_permit_6 : decode cX3_permit 6 = .ok (.invokestatic 80, 3) := by decide +kernel
theorem dX3_permit_9 : decode cX3_permit 9 = .ok (.aload_n 0, 1) := by decide +kernel
theorem dX3_permit_10 : decode cX3_permit 10 = .ok (.getfield 28, 3) := by decide +kernel
theorem dX3_permit_13 : decode cX3_permit 13 = .ok (.iload_n 1, 1) := by decide +kernel
theorem dX3_permit_14 : decode cX3_permit 14 = .ok (.aaload, 1) := by decide +kernel
theorem dX3_permit_15 : decode cX3_permit 15 = .ok (.getfield 91, 3) := by decide +kernel
theorem dX3_permit_18 : decode cX3_permit 18 = .ok (.istore_n 3, 1) := by decide +kernel
theorem dX3_permit_19 : decode cX3_permit 19 = .ok (.aload_n 0, 1) := by decide +kernel
theorem dX3_permit_20 : decode cX3_permit 20 = .ok (.getfield 28, 3) := by decide +kernel
theorem dX3_permit_23 : decode cX3_permit 23 = .ok (.iload_n 1, 1) := by decide +kernel
theorem dX3_permit_24 : decode cX3_permit 24 = .ok (.aaload, 1) := by decide +kernel
theorem dX3_permit_25 : decode cX3_permit 25 = .ok (.iload_n 2, 1) := by decide +kernel
theorem dX3_permit_26 : decode cX3_permit 26 = .ok (.putfield 91, 3) := by decide +kernel
theorem dX3_permit_29 : decode cX3_permit 29 = .ok (.iload_n 3, 1) := by decide +kernel
theorem dX3_permit_30 : decode cX3_permit 30 = .ok (.ireturn, 1) := by decide +kernel
theorem dX3_setDamp_0 : decode cX3_setDamp 0 = .ok (.iload_n 1, 1) := by decide +kernel
theorem dX3_setDamp_1 : decode cX3_setDamp 1 = .ok (.ifCond .lt 9, 3) := by decide +kernel
theorem dX3_setDamp_4 : decode cX3_setDamp 4 = .ok (.iload_n 1, 1) := by decide +kernel
theorem dX3_setDamp_5 : decode cX3_setDamp 5 = .ok (.bipush 7, 2) := by decide +kernel
theorem dX3_setDamp_7 : decode cX3_setDamp 7 = .ok (.if_icmp .lt 13, 3) := by decide +kernel
theorem dX3_setDamp_10 : decode cX3_setDamp 10 = .ok (.new 67, 3) := by decide +kernel
theorem dX3_setDamp_13 : decode cX3_setDamp 13 = .ok (.dup, 1) := by decide +kernel
theorem dX3_setDamp_14 : decode cX3_setDamp 14 = .ok (.ldc 97, 2) := by decide +kernel
theorem dX3_setDamp_16 : decode cX3_setDamp 16 = .ok (.invokespecial 71, 3) := by decide +kernel
theorem dX3_setDamp_19 : decode cX3_setDamp 19 = .ok (.athrow, 1) := by decide +kernel
theorem dX3_setDamp_20 : decode cX3_setDamp 20 = .ok (.iload_n 2, 1) := by decide +kernel
theorem dX3_setDamp_21 : decode cX3_setDamp 21 = .ok (.ifCond .lt 8, 3) := by decide +kernel
theorem dX3_setDamp_24 : decode cX3_setDamp 24 = .ok (.iload_n 2, 1) := by decide +kernel
theorem dX3_setDamp_25 : decode cX3_setDamp 25 = .ok (.iconst 5, 1) := by decide +kernel
theorem dX3_setDamp_26 : decode cX3_setDamp 26 = .ok (.if_icmp .le 13, 3) := by decide +kernel
theorem dX3_setDamp_29 : decode cX3_setDamp 29 = .ok (.new 75, 3) := by decide +kernel
theorem dX3_setDamp_32 : decode cX3_setDamp 32 = .ok (.dup, 1) := by decide +kernel
theorem dX3_setDamp_33 : decode cX3_setDamp 33 = .ok (.ldc 99, 2) := by decide +kernel
theorem dX3_setDamp_35 : decode cX3_setDamp 35 = .ok (.invokespecial 79, 3) := by decide +kernel
theorem dX3_setDamp_38 : decode cX3_setDamp 38 = .ok (.athrow, 1) := by decide +kernel
theorem dX3_setDamp_39 : decode cX3_setDamp 39 = .ok (.aload_n 0, 1) := by decide +kernel
theorem dX3_setDamp_40 : decode cX3_setDamp 40 = .ok (.getfield 33, 3) := by decide +kernel
theorem dX3_setDamp_43 : decode cX3_setDamp 43 = .ok (.iload_n 1, 1) := by decide +kernel
theorem dX3_setDamp_44 : decode cX3_setDamp 44 = .ok (.iaload, 1) := by decide +kernel
theorem dX3_setDamp_45 : decode cX3_setDamp 45 = .ok (.istore_n 3, 1) := by decide +kernel
theorem dX3_setDamp_46 : decode cX3_setDamp 46 = .ok (.aload_n 0, 1) := by decide +kernel
theorem dX3_setDamp_47 : decode cX3_setDamp 47 = .ok (.getfield 33, 3) := by decide +kernel
theorem dX3_setDamp_50 : decode cX3_setDamp 50 = .ok (.iload_n 1, 1) := by decide +kernel
theorem dX3_setDamp_51 : decode cX3_setDamp 51 = .ok (.iload_n 2, 1) := by decide +kernel
theorem dX3_setDamp_52 : decode cX3_setDamp 52 = .ok (.iastore, 1) := by decide +kernel
theorem dX3_setDamp_53 : decode cX3_setDamp 53 = .ok (.iload_n 3, 1) := by decide +kernel
theorem dX3_setDamp_54 : decode cX3_setDamp 54 = .ok (.ireturn, 1) := by decide +kernel
theorem dX3_play_0 : decode cX3_play 0 = .ok (.aload_n 0, 1) := by decide +kernel
theorem dX3_play_1 : decode cX3_play 1 = .ok (.iload_n 1, 1) := by decide +kernel
theorem dX3_play_2 : decode cX3_play 2 = .ok (.invokevirtual 94, 3) := by decide +kernel
theorem dX3_play_5 : decode cX3_play 5 = .ok (.aload_n 0, 1) := by decide +kernel
theorem dX3_play_6 : decode cX3_play 6 = .ok (.iload_n 2, 1) := by decide +kernel
theorem dX3_play_7 : decode cX3_play 7 = .ok (.invokevirtual 51, 3) := by decide +kernel
theorem dX3_play_10 : decode cX3_play 10 = .ok (.aload_n 0, 1) := by decide +kernel
theorem dX3_play_11 : decode cX3_play 11 = .ok (.getfield 21, 3) := by decide +kernel
theorem dX3_play_14 : decode cX3_play 14 = .ok (.iload_n 2, 1) := by decide +kernel
theorem dX3_play_15 : decode cX3_play 15 = .ok (.aaload, 1) := by decide +kernel
theorem dX3_play_16 : decode cX3_play 16 = .ok (.getfield 58, 3) := by decide +kernel
theorem dX3_play_19 : decode cX3_play 19 = .ok (.ifCond .ne 13, 3) := by decide +kernel
theorem dX3_play_22 : decode cX3_play 22 = .ok (.new 44, 3) := by decide +kernel
theorem dX3_play_25 : decode cX3_play 25 = .ok (.dup, 1) := by decide +kernel
theorem dX3_play_26 : decode cX3_play 26 = .ok (.ldc 101, 2) := by decide +kernel
theorem dX3_play_28 : decode cX3_play 28 = .ok (.invokespecial 48, 3) := by decide +kernel
theorem dX3_play_31 : decode cX3_play 31 = .ok (.athrow, 1) := by decide +kernel
theorem dX3_play_32 : decode cX3_play 32 = .ok (.aload_n 0, 1) := by decide +kernel
theorem dX3_play_33 : decode cX3_play 33 = .ok (.getfield 28, 3) := by decide +kernel
theorem dX3_play_36 : decode cX3_play 36 = .ok (.iload_n 1, 1) := by decide +kernel
theorem dX3_play_37 : decode cX3_play 37 = .ok (.aaload, 1) := by decide +kernel
theorem dX3_play_38 : decode cX3_play 38 = .ok (.aload_n 0, 1) := by decide +kernel
theorem dX3_play_39 : decode cX3_play 39 = .ok (.getfield 103, 3) := by decide +kernel
theorem dX3_play_42 : decode cX3_play 42 = .ok (.invokestatic 106, 3) := by decide +kernel
theorem dX3_play_45 : decode cX3_play 45 = .ok (.invokevirtual 109, 3) := by decide +kernel
theorem dX3_play_48 : decode cX3_play 48 = .ok (.ifCond .ne 9, 3) := by decide +kernel
theorem dX3_play_51 : decode cX3_play 51 = .ok (.aload_n 0, 1) := by decide +kernel
theorem dX3_play_52 : decode cX3_play 52 = .ok (.invokevirtual 113, 3) := by decide +kernel
theorem dX3_play_55 : decode cX3_play 55 = .ok (.ineg, 1) := by decide +kernel
theorem dX3_play_56 : decode cX3_play 56 = .ok (.ireturn, 1) := by decide +kernel
theorem dX3_play_57 : decode cX3_play 57 = .ok (.aload_n 0, 1) := by decide +kernel
theorem dX3_play_58 : decode cX3_play 58 = .ok (.iload_n 1, 1) := by decide +kernel
theorem dX3_play_59 : decode cX3_play 59 = .ok (.iload_n 2, 1) := by decide +kernel
theorem dX3_play_60 : decode cX3_play 60 = .ok (.invokevirtual 117, 3) := by decide +kernel
theorem dX3_play_63 : decode cX3_play 63 = .ok (.istore_n 3, 1) := by decide +kernel
theorem dX3_play_64 : decode cX3_play 64 = .ok (.aload_n 0, 1) := by decide +kernel
theorem dX3_play_65 : decode cX3_play 65 = .ok (.dup, 1) := by decide +kernel
theorem dX3_play_66 : decode cX3_play 66 = .ok (.getfield 37, 3) := by decide +kernel
theorem dX3_play_69 : decode cX3_play 69 = .ok (.iload_n 3, 1) := by decide +kernel
theorem dX3_play_70 : decode cX3_play 70 = .ok (.iadd, 1) := by decide +kernel
theorem dX3_play_71 : decode cX3_play 71 = .ok (.putfield 37, 3) := by decide +kernel
theorem dX3_play_74 : decode cX3_play 74 = .ok (.aload_n 0, 1) := by decide +kernel
theorem dX3_play_75 : decode cX3_play 75 = .ok (.getfield 28, 3) := by decide +kernel
theorem dX3_play_78 : decode cX3_play 78 = .ok (.iload_n 1, 1) := by decide +kernel
theorem dX3_play_79 : decode cX3_play 79 = .ok (.aaload, 1) := by decide +kernel
theorem dX3_play_80 : decode cX3_play 80 = .ok (.dup, 1) := by decide +kernel
theorem dX3_play_81 : decode cX3_play 81 = .ok (.getfield 121, 3) := by decide +kernel
theorem dX3_play_84 : decode cX3_play 84 = .ok (.iload_n 3, 1) := by decide +kernel
theorem dX3_play_85 : decode cX3_play 85 = .ok (.iadd, 1) := by decide +kernel
theorem dX3_play_86 : decode cX3_play 86 = .ok (.putfield 121, 3) := by decide +kernel
theorem dX3_play_89 : decode cX3_play 89 = .ok (.aload_n 0, 1) := by decide +kernel
theorem dX3_play_90 : decode cX3_play 90 = .ok (.getfield 28, 3) := by decide +kernel
theorem dX3_play_93 : decode cX3_play 93 = .ok (.iload_n 1, 1) := by decide +kernel
theorem dX3_play_94 : decode cX3_play 94 = .ok (.aaload, 1) := by decide +kernel
theorem dX3_play_95 : decode cX3_play 95 = .ok (.getfield 124, 3) := by decide +kernel
theorem dX3_play_98 : decode cX3_play 98 = .ok (.iload_n 2, 1) := by decide +kernel
theorem dX3_play_99 : decode cX3_play 99 = .ok (.dup2, 1) := by decide +kernel
theorem dX3_play_100 : decode cX3_play 100 = .ok (.iaload, 1) := by decide +kernel
theorem dX3_play_101 : decode cX3_play 101 = .ok (.iconst 1, 1) := by decide +kernel
theorem dX3_play_102 : decode cX3_play 102 = .ok (.iadd, 1) := by decide +kernel
theorem dX3_play_103 : decode cX3_play 103 = .ok (.iastore, 1) := by decide +kernel
theorem dX3_play_104 : decode cX3_play 104 = .ok (.aload_n 0, 1) := by decide +kernel
theorem dX3_play_105 : decode cX3_play 105 = .ok (.getfield 21, 3) := by decide +kernel
theorem dX3_play_108 : decode cX3_play 108 = .ok (.iload_n 2, 1) := by decide +kernel
theorem dX3_play_109 : decode cX3_play 109 = .ok (.aaload, 1) := by decide +kernel
theorem dX3_play_110 : decode cX3_play 110 = .ok (.aload_n 0, 1) := by decide +kernel
theorem dX3_play_111 : decode cX3_play 111 = .ok (.getfield 10, 3) := by decide +kernel
theorem dX3_play_114 : decode cX3_play 114 = .ok (.invokevirtual 127, 3) := by decide +kernel
theorem dX3_play_117 : decode cX3_play 117 = .ok (.iload_n 3, 1) := by decide +kernel
theorem dX3_play_118 : decode cX3_play 118 = .ok (.ireturn, 1) := by decide +kernel
theorem dX3_tune_0 : decode cX3_tune 0 = .ok (.iload_n 1, 1) := by decide +kernel
theorem dX3_tune_1 : decode cX3_tune 1 = .ok (.invokestatic 55, 3) := by decide +kernel
theorem dX3_tune_4 : decode cX3_tune 4 = .ok (.iload_n 2, 1) := by decide +kernel
theorem dX3_tune_5 : decode cX3_tune 5 = .ok (.bipush (-120), 2) := by decide +kernel
theorem dX3_tune_7 : decode cX3_tune 7 = .ok (.if_icmp .lt 9, 3) := by decide +kernel
theorem dX3_tune_10 : decode cX3_tune 10 = .ok (.iload_n 2, 1) := by decide +kernel
theorem dX3_tune_11 : decode cX3_tune 11 = .ok (.bipush 120, 2) := by decide +kernel
theorem dX3_tune_13 : decode cX3_tune 13 = .ok (.if_icmp .le 13, 3) := by decide +kernel
theorem dX3_tune_16 : decode cX3_tune 16 = .ok (.new 75, 3) := by decide +kernel
theorem dX3_tune_19 : decode cX3_tune 19 = .ok (.dup, 1) := by decide +kernel
theorem dX3_tune_20 : decode cX3_tune 20 = .ok (.ldc 131, 2) := by decide +kernel
theorem dX3_tune_22 : decode cX3_tune 22 = .ok (.invokespecial 79, 3) := by decide +kernel
theorem dX3_tune_25 : decode cX3_tune 25 = .ok (.athrow, 1) := by decide +kernel
theorem dX3_tune_26 : decode cX3_tune 26 = .ok (.aload_n 0, 1) := by decide +kernel
theorem dX3_tune_27 : decode cX3_tune 27 = .ok (.getfield 10, 3) := by decide +kernel
theorem dX3_tune_30 : decode cX3_tune 30 = .ok (.iload_n 1, 1) := by decide +kernel
theorem dX3_tune_31 : decode cX3_tune 31 = .ok (.iload_n 2, 1) := by decide +kernel
theorem dX3_tune_32 : decode cX3_tune 32 = .ok (.invokevirtual 133, 3) := by decide +kernel
theorem dX3_tune_35 : decode cX3_tune 35 = .ok (.aload_n 0, 1) := by decide +kernel
theorem dX3_tune_36 : decode cX3_tune 36 = .ok (.getfield 10, 3) := by decide +kernel
theorem dX3_tune_39 : decode cX3_tune 39 = .ok (.getfield 137, 3) := by decide +kernel
theorem dX3_tune_42 : decode cX3_tune 42 = .ok (.iload_n 1, 1) := by decide +kernel
theorem dX3_tune_43 : decode cX3_tune 43 = .ok (.iaload, 1) := by decide +kernel
theorem dX3_tune_44 : decode cX3_tune 44 = .ok (.ireturn, 1) := by decide +kernel
theorem dX3_felt_0 : decode cX3_felt 0 = .ok (.iload_n 1, 1) := by decide +kernel
theorem dX3_felt_1 : decode cX3_felt 1 = .ok (.invokestatic 55, 3) := by decide +kernel
theorem dX3_felt_4 : decode cX3_felt 4 = .ok (.aload_n 0, 1) := by decide +kernel
theorem dX3_felt_5 : decode cX3_felt 5 = .ok (.getfield 37, 3) := by decide +kernel
theorem dX3_felt_8 : decode cX3_felt 8 = .ok (.iconst 4, 1) := by decide +kernel
theorem dX3_felt_9 : decode cX3_felt 9 = .ok (.if_icmp .ge 13, 3) := by decide +kernel
theorem dX3_felt_12 : decode cX3_felt 12 = .ok (.new 44, 3) := by decide +kernel
theorem dX3_felt_15 : decode cX3_felt 15 = .ok (.dup, 1) := by decide +kernel
theorem dX3_felt_16 : decode cX3_felt 16 = .ok (.ldc 140, 2) := by decide +kernel
theorem dX3_felt_18 : decode cX3_felt 18 = .ok (.invokespecial 48, 3) := by decide +kernel
theorem dX3_felt_21 : decode cX3_felt 21 = .ok (.athrow, 1) := by decide +kernel
theorem dX3_felt_22 : decode cX3_felt 22 = .ok (.aload_n 0, 1) := by decide +kernel
theorem dX3_felt_23 : decode cX3_felt 23 = .ok (.dup, 1) := by decide +kernel
theorem dX3_felt_24 : decode cX3_felt 24 = .ok (.getfield 37, 3) := by decide +kernel
theorem dX3_felt_27 : decode cX3_felt 27 = .ok (.iconst 4, 1) := by decide +kernel
theorem dX3_felt_28 : decode cX3_felt 28 = .ok (.isub, 1) := by decide +kernel
theorem dX3_felt_29 : decode cX3_felt 29 = .ok (.putfield 37, 3) := by decide +kernel
theorem dX3_felt_32 : decode cX3_felt 32 = .ok (.aload_n 0, 1) := by decide +kernel
theorem dX3_felt_33 : decode cX3_felt 33 = .ok (.getfield 10, 3) := by decide +kernel
theorem dX3_felt_36 : decode cX3_felt 36 = .ok (.getfield 142, 3) := by decide +kernel
theorem dX3_felt_39 : decode cX3_felt 39 = .ok (.iload_n 1, 1) := by decide +kernel
theorem dX3_felt_40 : decode cX3_felt 40 = .ok (.iaload, 1) := by decide +kernel
theorem dX3_felt_41 : decode cX3_felt 41 = .ok (.istore_n 2, 1) := by decide +kernel
theorem dX3_felt_42 : decode cX3_felt 42 = .ok (.aload_n 0, 1) := by decide +kernel
theorem dX3_felt_43 : decode cX3_felt 43 = .ok (.getfield 10, 3) := by decide +kernel
theorem dX3_felt_46 : decode cX3_felt 46 = .ok (.getfield 142, 3) := by decide +kernel
theorem dX3_felt_49 : decode cX3_felt 49 = .ok (.iload_n 1, 1) := by decide +kernel
theorem dX3_felt_50 : decode cX3_felt 50 = .ok (.iconst 0, 1) := by decide +kernel
theorem dX3_felt_51 : decode cX3_felt 51 = .ok (.iastore, 1) := by decide +kernel
theorem dX3_felt_52 : decode cX3_felt 52 = .ok (.iload_n 2, 1) := by decide +kernel
theorem dX3_felt_53 : decode cX3_felt 53 = .ok (.ireturn, 1) := by decide +kernel
theorem dX3_chase_0 : decode cX3_chase 0 = .ok (.aload_n 0, 1) := by decide +kernel
theorem dX3_chase_1 : decode cX3_chase 1 = .ok (.getfield 10, 3) := by decide +kernel
theorem dX3_chase_4 : decode cX3_chase 4 = .ok (.invokevirtual 145, 3) := by decide +kernel
theorem dX3_chase_7 : decode cX3_chase 7 = .ok (.istore_n 1, 1) := by decide +kernel
theorem dX3_chase_8 : decode cX3_chase 8 = .ok (.aload_n 0, 1) := by decide +kernel
theorem dX3_chase_9 : decode cX3_chase 9 = .ok (.getfield 10, 3) := by decide +kernel
theorem dX3_chase_12 : decode cX3_chase 12 = .ok (.invokevirtual 148, 3) := by decide +kernel
theorem dX3_chase_15 : decode cX3_chase 15 = .ok (.iload_n 1, 1) := by decide +kernel
theorem dX3_chase_16 : decode cX3_chase 16 = .ok (.ireturn, 1) := by decide +kernel
theorem dX3_pipe_0 : decode cX3_pipe 0 = .ok (.iload_n 1, 1) := by decide +kernel
theorem dX3_pipe_1 : decode cX3_pipe 1 = .ok (.invokestatic 55, 3) := by decide +kernel
theorem dX3_pipe_4 : decode cX3_pipe 4 = .ok (.iload_n 2, 1) := by decide +kernel
theorem dX3_pipe_5 : decode cX3_pipe 5 = .ok (.ifCond .lt 8, 3) := by decide +kernel
theorem dX3_pipe_8 : decode cX3_pipe 8 = .ok (.iload_n 2, 1) := by decide +kernel
theorem dX3_pipe_9 : decode cX3_pipe 9 = .ok (.iconst 5, 1) := by decide +kernel
theorem dX3_pipe_10 : decode cX3_pipe 10 = .ok (.if_icmp .lt 13, 3) := by decide +kernel
theorem dX3_pipe_13 : decode cX3_pipe 13 = .ok (.new 67, 3) := by decide +kernel
theorem dX3_pipe_16 : decode cX3_pipe 16 = .ok (.dup, 1) := by decide +kernel
theorem dX3_pipe_17 : decode cX3_pipe 17 = .ok (.ldc 151, 2) := by decide +kernel
theorem dX3_pipe_19 : decode cX3_pipe 19 = .ok (.invokespecial 71, 3) := by decide +kernel
theorem dX3_pipe_22 : decode cX3_pipe 22 = .ok (.athrow, 1) := by decide +kernel
theorem dX3_pipe_23 : decode cX3_pipe 23 = .ok (.aload_n 0, 1) := by decide +kernel
theorem dX3_pipe_24 : decode cX3_pipe 24 = .ok (.getfield 10, 3) := by decide +kernel
theorem dX3_pipe_27 : decode cX3_pipe 27 = .ok (.iload_n 1, 1) := by decide +kernel
theorem dX3_pipe_28 : decode cX3_pipe 28 = .ok (.iload_n 2, 1) := by decide +kernel
theorem dX3_pipe_29 : decode cX3_pipe 29 = .ok (.invokevirtual 153, 3) := by decide +kernel
theorem dX3_pipe_32 : decode cX3_pipe 32 = .ok (.ireturn, 1) := by decide +kernel
theorem dX3_sound_0 : decode cX3_sound 0 = .ok (.aload_n 0, 1) := by decide +kernel
theorem dX3_sound_1 : decode cX3_sound 1 = .ok (.iload_n 1, 1) := by decide +kernel
theorem dX3_sound_2 : decode cX3_sound 2 = .ok (.invokevirtual 51, 3) := by decide +kernel
theorem dX3_sound_5 : decode cX3_sound 5 = .ok (.aload_n 0, 1) := by decide +kernel
theorem dX3_sound_6 : decode cX3_sound 6 = .ok (.getfield 21, 3) := by decide +kernel
theorem dX3_sound_9 : decode cX3_sound 9 = .ok (.iload_n 1, 1) := by decide +kernel
theorem dX3_sound_10 : decode cX3_sound 10 = .ok (.aaload, 1) := by decide +kernel
theorem dX3_sound_11 : decode cX3_sound 11 = .ok (.aload_n 0, 1) := by decide +kernel
theorem dX3_sound_12 : decode cX3_sound 12 = .ok (.getfield 10, 3) := by decide +kernel
theorem dX3_sound_15 : decode cX3_sound 15 = .ok (.invokevirtual 156, 3) := by decide +kernel
theorem dX3_sound_18 : decode cX3_sound 18 = .ok (.ireturn, 1) := by decide +kernel
theorem dX3_told_0 : decode cX3_told 0 = .ok (.aload_n 0, 1) := by decide +kernel
theorem dX3_told_1 : decode cX3_told 1 = .ok (.iload_n 1, 1) := by decide +kernel
theorem dX3_told_2 : decode cX3_told 2 = .ok (.invokevirtual 94, 3) := by decide +kernel
theorem dX3_told_5 : decode cX3_told 5 = .ok (.iload_n 2, 1) := by decide +kernel
theorem dX3_told_6 : decode cX3_told 6 = .ok (.ifCond .lt 8, 3) := by decide +kernel
theorem dX3_told_9 : decode cX3_told 9 = .ok (.iload_n 2, 1) := by decide +kernel
theorem dX3_told_10 : decode cX3_told 10 = .ok (.iconst 5, 1) := by decide +kernel
theorem dX3_told_11 : decode cX3_told 11 = .ok (.if_icmp .lt 13, 3) := by decide +kernel
theorem dX3_told_14 : decode cX3_told 14 = .ok (.new 67, 3) := by decide +kernel
theorem dX3_told_17 : decode cX3_told 17 = .ok (.dup, 1) := by decide +kernel
theorem dX3_told_18 : decode cX3_told 18 = .ok (.ldc 151, 2) := by decide +kernel
theorem dX3_told_20 : decode cX3_told 20 = .ok (.invokespecial 71, 3) := by decide +kernel
theorem dX3_told_23 : decode cX3_told 23 = .ok (.athrow, 1) := by decide +kernel
theorem dX3_told_24 : decode cX3_told 24 = .ok (.aload_n 0, 1) := by decide +kernel
theorem dX3_told_25 : decode cX3_told 25 = .ok (.getfield 28, 3) := by decide +kernel
theorem dX3_told_28 : decode cX3_told 28 = .ok (.iload_n 1, 1) := by decide +kernel
theorem dX3_told_29 : decode cX3_told 29 = .ok (.aaload, 1) := by decide +kernel
theorem dX3_told_30 : decode cX3_told 30 = .ok (.iload_n 2, 1) := by decide +kernel
theorem dX3_told_31 : decode cX3_told 31 = .ok (.aload_n 0, 1) := by decide +kernel
theorem dX3_told_32 : decode cX3_told 32 = .ok (.getfield 103, 3) := by decide +kernel
theorem dX3_told_35 : decode cX3_told 35 = .ok (.invokestatic 106, 3) := by decide +kernel
theorem dX3_told_38 : decode cX3_told 38 = .ok (.invokevirtual 160, 3) := by decide +kernel
theorem dX3_told_41 : decode cX3_told 41 = .ok (.ireturn, 1) := by decide +kernel
theorem dX3_count_0 : decode cX3_count 0 = .ok (.iload_n 1, 1) := by decide +kernel
theorem dX3_count_1 : decode cX3_count 1 = .ok (.ifCond .lt 9, 3) := by decide +kernel
theorem dX3_count_4 : decode cX3_count 4 = .ok (.iload_n 1, 1) := by decide +kernel
theorem dX3_count_5 : decode cX3_count 5 = .ok (.bipush 9, 2) := by decide +kernel
theorem dX3_count_7 : decode cX3_count 7 = .ok (.if_icmp .lt 13, 3) := by decide +kernel
theorem dX3_count_10 : decode cX3_count 10 = .ok (.new 67, 3) := by decide +kernel
theorem dX3_count_13 : decode cX3_count 13 = .ok (.dup, 1) := by decide +kernel
theorem dX3_count_14 : decode cX3_count 14 = .ok (.ldc 161, 2) := by decide +kernel
theorem dX3_count_16 : decode cX3_count 16 = .ok (.invokespecial 71, 3) := by decide +kernel
theorem dX3_count_19 : decode cX3_count 19 = .ok (.athrow, 1) := by decide +kernel
theorem dX3_count_20 : decode cX3_count 20 = .ok (.aload_n 0, 1) := by decide +kernel
theorem dX3_count_21 : decode cX3_count 21 = .ok (.iload_n 1, 1) := by decide +kernel
theorem dX3_count_22 : decode cX3_count 22 = .ok (.invokevirtual 163, 3) := by decide +kernel
theorem dX3_count_25 : decode cX3_count 25 = .ok (.ireturn, 1) := by decide +kernel
theorem dX3_rest_0 : decode cX3_rest 0 = .ok (.iload_n 1, 1) := by decide +kernel
theorem dX3_rest_1 : decode cX3_rest 1 = .ok (.invokestatic 166, 3) := by decide +kernel
theorem dX3_rest_4 : decode cX3_rest 4 = .ok (.aload_n 0, 1) := by decide +kernel
theorem dX3_rest_5 : decode cX3_rest 5 = .ok (.aload_n 0, 1) := by decide +kernel
theorem dX3_rest_6 : decode cX3_rest 6 = .ok (.getfield 10, 3) := by decide +kernel
theorem dX3_rest_9 : decode cX3_rest 9 = .ok (.iload_n 1, 1) := by decide +kernel
theorem dX3_rest_10 : decode cX3_rest 10 = .ok (.invokevirtual 169, 3) := by decide +kernel
theorem dX3_rest_13 : decode cX3_rest 13 = .ok (.istore_n 2, 1) := by decide +kernel
theorem dX3_rest_14 : decode cX3_rest 14 = .ok (.iconst 0, 1) := by decide +kernel
theorem dX3_rest_15 : decode cX3_rest 15 = .ok (.istore_n 3, 1) := by decide +kernel
theorem dX3_rest_16 : decode cX3_rest 16 = .ok (.iload_n 3, 1) := by decide +kernel
theorem dX3_rest_17 : decode cX3_rest 17 = .ok (.aload_n 0, 1) := by decide +kernel
theorem dX3_rest_18 : decode cX3_rest 18 = .ok (.getfield 83, 3) := by decide +kernel
theorem dX3_rest_21 : decode cX3_rest 21 = .ok (.if_icmp .ge 18, 3) := by decide +kernel
theorem dX3_rest_24 : decode cX3_rest 24 = .ok (.aload_n 0, 1) := by decide +kernel
theorem dX3_rest_25 : decode cX3_rest 25 = .ok (.getfield 28, 3) := by decide +kernel
theorem dX3_rest_28 : decode cX3_rest 28 = .ok (.iload_n 3, 1) := by decide +kernel
theorem dX3_rest_29 : decode cX3_rest 29 = .ok (.aaload, 1) := by decide +kernel
theorem dX3_rest_30 : decode cX3_rest 30 = .ok (.invokevirtual 173, 3) := by decide +kernel
theorem dX3_rest_33 : decode cX3_rest 33 = .ok (.iinc 3 1, 3) := by decide +kernel
theorem dX3_rest_36 : decode cX3_rest 36 = .ok (.goto (-20), 3) := by decide +kernel
theorem dX3_rest_39 : decode cX3_rest 39 = .ok (.aload_n 0, 1) := by decide +kernel
theorem dX3_rest_40 : decode cX3_rest 40 = .ok (.dup, 1) := by decide +kernel
theorem dX3_rest_41 : decode cX3_rest 41 = .ok (.getfield 103, 3) := by decide +kernel
theorem dX3_rest_44 : decode cX3_rest 44 = .ok (.iload_n 1, 1) := by decide +kernel
theorem dX3_rest_45 : decode cX3_rest 45 = .ok (.iadd, 1) := by decide +kernel
theorem dX3_rest_46 : decode cX3_rest 46 = .ok (.putfield 103, 3) := by decide +kernel
theorem dX3_rest_49 : decode cX3_rest 49 = .ok (.iload_n 2, 1) := by decide +kernel
theorem dX3_rest_50 : decode cX3_rest 50 = .ok (.ireturn, 1) := by decide +kernel
theorem dX3_pays_0 : decode cX3_pays 0 = .ok (.aload_n 0, 1) := by decide +kernel
theorem dX3_pays_1 : decode cX3_pays 1 = .ok (.iload_n 1, 1) := by decide +kernel
theorem dX3_pays_2 : decode cX3_pays 2 = .ok (.invokevirtual 94, 3) := by decide +kernel
theorem dX3_pays_5 : decode cX3_pays 5 = .ok (.aload_n 0, 1) := by decide +kernel
theorem dX3_pays_6 : decode cX3_pays 6 = .ok (.iload_n 2, 1) := by decide +kernel
theorem dX3_pays_7 : decode cX3_pays 7 = .ok (.invokevirtual 51, 3) := by decide +kernel
theorem dX3_pays_10 : decode cX3_pays 10 = .ok (.aload_n 0, 1) := by decide +kernel
theorem dX3_pays_11 : decode cX3_pays 11 = .ok (.iload_n 1, 1) := by decide +kernel
theorem dX3_pays_12 : decode cX3_pays 12 = .ok (.iload_n 2, 1) := by decide +kernel
theorem dX3_pays_13 : decode cX3_pays 13 = .ok (.invokevirtual 117, 3) := by decide +kernel
theorem dX3_pays_16 : decode cX3_pays 16 = .ok (.ireturn, 1) := by decide +kernel
theorem dX3_best_0 : decode cX3_best 0 = .ok (.aload_n 0, 1) := by decide +kernel
theorem dX3_best_1 : decode cX3_best 1 = .ok (.iload_n 1, 1) := by decide +kernel
theorem dX3_best_2 : decode cX3_best 2 = .ok (.invokevirtual 94, 3) := by decide +kernel
theorem dX3_best_5 : decode cX3_best 5 = .ok (.iconst (-1), 1) := by decide +kernel
theorem dX3_best_6 : decode cX3_best 6 = .ok (.istore_n 2, 1) := by decide +kernel
theorem dX3_best_7 : decode cX3_best 7 = .ok (.iconst 0, 1) := by decide +kernel
theorem dX3_best_8 : decode cX3_best 8 = .ok (.istore_n 3, 1) := by decide +kernel
theorem dX3_best_9 : decode cX3_best 9 = .ok (.iconst 0, 1) := by decide +kernel
theorem dX3_best_10 : decode cX3_best 10 = .ok (.istore 4, 2) := by decide +kernel
theorem dX3_best_12 : decode cX3_best 12 = .ok (.iload 4, 2) := by decide +kernel
theorem dX3_best_14 : decode cX3_best 14 = .ok (.aload_n 0, 1) := by decide +kernel
theorem dX3_best_15 : decode cX3_best 15 = .ok (.getfield 41, 3) := by decide +kernel
theorem dX3_best_18 : decode cX3_best 18 = .ok (.if_icmp .ge 30, 3) := by decide +kernel
theorem dX3_best_21 : decode cX3_best 21 = .ok (.aload_n 0, 1) := by decide +kernel
theorem dX3_best_22 : decode cX3_best 22 = .ok (.iload_n 1, 1) := by decide +kernel
theorem dX3_best_23 : decode cX3_best 23 = .ok (.iload 4, 2) := by decide +kernel
theorem dX3_best_25 : decode cX3_best 25 = .ok (.invokevirtual 117, 3) := by decide +kernel
theorem dX3_best_28 : decode cX3_best 28 = .ok (.istore 5, 2) := by decide +kernel
theorem dX3_best_30 : decode cX3_best 30 = .ok (.iload 5, 2) := by decide +kernel
theorem dX3_best_32 : decode cX3_best 32 = .ok (.iload_n 3, 1) := by decide +kernel
theorem dX3_best_33 : decode cX3_best 33 = .ok (.if_icmp .le 9, 3) := by decide +kernel
theorem dX3_best_36 : decode cX3_best 36 = .ok (.iload 5, 2) := by decide +kernel
theorem dX3_best_38 : decode cX3_best 38 = .ok (.istore_n 3, 1) := by decide +kernel
theorem dX3_best_39 : decode cX3_best 39 = .ok (.iload 4, 2) := by decide +kernel
theorem dX3_best_41 : decode cX3_best 41 = .ok (.istore_n 2, 1) := by decide +kernel
theorem dX3_best_42 : decode cX3_best 42 = .ok (.iinc 4 1, 3) := by decide +kernel
theorem dX3_best_45 : decode cX3_best 45 = .ok (.goto (-33), 3) := by decide +kernel
theorem dX3_best_48 : decode cX3_best 48 = .ok (.iload_n 2, 1) := by decide +kernel
theorem dX3_best_49 : decode cX3_best 49 = .ok (.ireturn, 1) := by decide +kernel
theorem dX3_worst_0 : decode cX3_worst 0 = .ok (.aload_n 0, 1) := by decide +kernel
theorem dX3_worst_1 : decode cX3_worst 1 = .ok (.iload_n 1, 1) := by decide +kernel
theorem dX3_worst_2 : decode cX3_worst 2 = .ok (.invokevirtual 51, 3) := by decide +kernel
theorem dX3_worst_5 : decode cX3_worst 5 = .ok (.iconst (-1), 1) := by decide +kernel
theorem dX3_worst_6 : decode cX3_worst 6 = .ok (.istore_n 2, 1) := by decide +kernel
theorem dX3_worst_7 : decode cX3_worst 7 = .ok (.aload_n 0, 1) := by decide +kernel
theorem dX3_worst_8 : decode cX3_worst 8 = .ok (.getfield 21, 3) := by decide +kernel
theorem dX3_worst_11 : decode cX3_worst 11 = .ok (.iload_n 1, 1) := by decide +kernel
theorem dX3_worst_12 : decode cX3_worst 12 = .ok (.aaload, 1) := by decide +kernel
theorem dX3_worst_13 : decode cX3_worst 13 = .ok (.aload_n 0, 1) := by decide +kernel
theorem dX3_worst_14 : decode cX3_worst 14 = .ok (.getfield 10, 3) := by decide +kernel
theorem dX3_worst_17 : decode cX3_worst 17 = .ok (.invokevirtual 156, 3) := by decide +kernel
theorem dX3_worst_20 : decode cX3_worst 20 = .ok (.istore_n 3, 1) := by decide +kernel
theorem dX3_worst_21 : decode cX3_worst 21 = .ok (.iconst 0, 1) := by decide +kernel
theorem dX3_worst_22 : decode cX3_worst 22 = .ok (.istore 4, 2) := by decide +kernel
theorem dX3_worst_24 : decode cX3_worst 24 = .ok (.iload 4, 2) := by decide +kernel
theorem dX3_worst_26 : decode cX3_worst 26 = .ok (.bipush 12, 2) := by decide +kernel
theorem dX3_worst_28 : decode cX3_worst 28 = .ok (.if_icmp .ge 38, 3) := by decide +kernel
theorem dX3_worst_31 : decode cX3_worst 31 = .ok (.aload_n 0, 1) := by decide +kernel
theorem dX3_worst_32 : decode cX3_worst 32 = .ok (.getfield 21, 3) := by decide +kernel
theorem dX3_worst_35 : decode cX3_worst 35 = .ok (.iload_n 1, 1) := by decide +kernel
theorem dX3_worst_36 : decode cX3_worst 36 = .ok (.aaload, 1) := by decide +kernel
theorem dX3_worst_37 : decode cX3_worst 37 = .ok (.aload_n 0, 1) := by decide +kernel
theorem dX3_worst_38 : decode cX3_worst 38 = .ok (.getfield 10, 3) := by decide +kernel
theorem dX3_worst_41 : decode cX3_worst 41 = .ok (.iload 4, 2) := by decide +kernel
theorem dX3_worst_43 : decode cX3_worst 43 = .ok (.invokevirtual 176, 3) := by decide +kernel
theorem dX3_worst_46 : decode cX3_worst 46 = .ok (.istore 5, 2) := by decide +kernel
theorem dX3_worst_48 : decode cX3_worst 48 = .ok (.iload 5, 2) := by decide +kernel
theorem dX3_worst_50 : decode cX3_worst 50 = .ok (.iload_n 3, 1) := by decide +kernel
theorem dX3_worst_51 : decode cX3_worst 51 = .ok (.if_icmp .le 9, 3) := by decide +kernel
theorem dX3_worst_54 : decode cX3_worst 54 = .ok (.iload 5, 2) := by decide +kernel
theorem dX3_worst_56 : decode cX3_worst 56 = .ok (.istore_n 3, 1) := by decide +kernel
theorem dX3_worst_57 : decode cX3_worst 57 = .ok (.iload 4, 2) := by decide +kernel
theorem dX3_worst_59 : decode cX3_worst 59 = .ok (.istore_n 2, 1) := by decide +kernel
theorem dX3_worst_60 : decode cX3_worst 60 = .ok (.iinc 4 1, 3) := by decide +kernel
theorem dX3_worst_63 : decode cX3_worst 63 = .ok (.goto (-39), 3) := by decide +kernel
theorem dX3_worst_66 : decode cX3_worst 66 = .ok (.iload_n 2, 1) := by decide +kernel
theorem dX3_worst_67 : decode cX3_worst 67 = .ok (.ireturn, 1) := by decide +kernel
theorem dX3_foresee_0 : decode cX3_foresee 0 = .ok (.iload_n 1, 1) := by decide +kernel
theorem dX3_foresee_1 : decode cX3_foresee 1 = .ok (.invokestatic 166, 3) := by decide +kernel
theorem dX3_foresee_4 : decode cX3_foresee 4 = .ok (.iload_n 2, 1) := by decide +kernel
theorem dX3_foresee_5 : decode cX3_foresee 5 = .ok (.iconst 5, 1) := by decide +kernel
theorem dX3_foresee_6 : decode cX3_foresee 6 = .ok (.if_icmp .lt 9, 3) := by decide +kernel
theorem dX3_foresee_9 : decode cX3_foresee 9 = .ok (.iload_n 2, 1) := by decide +kernel
theorem dX3_foresee_10 : decode cX3_foresee 10 = .ok (.bipush 7, 2) := by decide +kernel
theorem dX3_foresee_12 : decode cX3_foresee 12 = .ok (.if_icmp .le 13, 3) := by decide +kernel
theorem dX3_foresee_15 : decode cX3_foresee 15 = .ok (.new 67, 3) := by decide +kernel
theorem dX3_foresee_18 : decode cX3_foresee 18 = .ok (.dup, 1) := by decide +kernel
theorem dX3_foresee_19 : decode cX3_foresee 19 = .ok (.ldc 179, 2) := by decide +kernel
theorem dX3_foresee_21 : decode cX3_foresee 21 = .ok (.invokespecial 71, 3) := by decide +kernel
theorem dX3_foresee_24 : decode cX3_foresee 24 = .ok (.athrow, 1) := by decide +kernel
theorem dX3_foresee_25 : decode cX3_foresee 25 = .ok (.aload_n 0, 1) := by decide +kernel
theorem dX3_foresee_26 : decode cX3_foresee 26 = .ok (.getfield 16, 3) := by decide +kernel
theorem dX3_foresee_29 : decode cX3_foresee 29 = .ok (.aload_n 0, 1) := by decide +kernel
theorem dX3_foresee_30 : decode cX3_foresee 30 = .ok (.getfield 10, 3) := by decide +kernel
theorem dX3_foresee_33 : decode cX3_foresee 33 = .ok (.invokevirtual 181, 3) := by decide +kernel
theorem dX3_foresee_36 : decode cX3_foresee 36 = .ok (.aload_n 0, 1) := by decide +kernel
theorem dX3_foresee_37 : decode cX3_foresee 37 = .ok (.aload_n 0, 1) := by decide +kernel
theorem dX3_foresee_38 : decode cX3_foresee 38 = .ok (.getfield 16, 3) := by decide +kernel
theorem dX3_foresee_41 : decode cX3_foresee 41 = .ok (.iload_n 1, 1) := by decide +kernel
theorem dX3_foresee_42 : decode cX3_foresee 42 = .ok (.invokevirtual 169, 3) := by decide +kernel
theorem dX3_foresee_45 : decode cX3_foresee 45 = .ok (.pop, 1) := by decide +kernel
theorem dX3_foresee_46 : decode cX3_foresee 46 = .ok (.aload_n 0, 1) := by decide +kernel
theorem dX3_foresee_47 : decode cX3_foresee 47 = .ok (.getfield 16, 3) := by decide +kernel
theorem dX3_foresee_50 : decode cX3_foresee 50 = .ok (.iload_n 2, 1) := by decide +kernel
theorem dX3_foresee_51 : decode cX3_foresee 51 = .ok (.invokevirtual 184, 3) := by decide +kernel
theorem dX3_foresee_54 : decode cX3_foresee 54 = .ok (.ireturn, 1) := by decide +kernel
theorem dX3_lasts_0 : decode cX3_lasts 0 = .ok (.aload_n 0, 1) := by decide +kernel
theorem dX3_lasts_1 : decode cX3_lasts 1 = .ok (.iload_n 1, 1) := by decide +kernel
theorem dX3_lasts_2 : decode cX3_lasts 2 = .ok (.invokevirtual 51, 3) := by decide +kernel
theorem dX3_lasts_5 : decode cX3_lasts 5 = .ok (.aload_n 0, 1) := by decide +kernel
theorem dX3_lasts_6 : decode cX3_lasts 6 = .ok (.getfield 16, 3) := by decide +kernel
theorem dX3_lasts_9 : decode cX3_lasts 9 = .ok (.aload_n 0, 1) := by decide +kernel
theorem dX3_lasts_10 : decode cX3_lasts 10 = .ok (.getfield 10, 3) := by decide +kernel
theorem dX3_lasts_13 : decode cX3_lasts 13 = .ok (.invokevirtual 181, 3) := by decide +kernel
theorem dX3_lasts_16 : decode cX3_lasts 16 = .ok (.iconst 0, 1) := by decide +kernel
theorem dX3_lasts_17 : decode cX3_lasts 17 = .ok (.istore_n 2, 1) := by decide +kernel
theorem dX3_lasts_18 : decode cX3_lasts 18 = .ok (.iload_n 2, 1) := by decide +kernel
theorem dX3_lasts_19 : decode cX3_lasts 19 = .ok (.bipush 99, 2) := by decide +kernel
theorem dX3_lasts_21 : decode cX3_lasts 21 = .ok (.if_icmp .ge 40, 3) := by decide +kernel
theorem dX3_lasts_24 : decode cX3_lasts 24 = .ok (.aload_n 0, 1) := by decide +kernel
theorem dX3_lasts_25 : decode cX3_lasts 25 = .ok (.getfield 21, 3) := by decide +kernel
theorem dX3_lasts_28 : decode cX3_lasts 28 = .ok (.iload_n 1, 1) := by decide +kernel
theorem dX3_lasts_29 : decode cX3_lasts 29 = .ok (.aaload, 1) := by decide +kernel
theorem dX3_lasts_30 : decode cX3_lasts 30 = .ok (.aload_n 0, 1) := by decide +kernel
theorem dX3_lasts_31 : decode cX3_lasts 31 = .ok (.getfield 16, 3) := by decide +kernel
theorem dX3_lasts_34 : decode cX3_lasts 34 = .ok (.invokevirtual 156, 3) := by decide +kernel
theorem dX3_lasts_37 : decode cX3_lasts 37 = .ok (.bipush 30, 2) := by decide +kernel
theorem dX3_lasts_39 : decode cX3_lasts 39 = .ok (.if_icmp .lt 22, 3) := by decide +kernel
theorem dX3_lasts_42 : decode cX3_lasts 42 = .ok (.aload_n 0, 1) := by decide +kernel
theorem dX3_lasts_43 : decode cX3_lasts 43 = .ok (.getfield 21, 3) := by decide +kernel
theorem dX3_lasts_46 : decode cX3_lasts 46 = .ok (.iload_n 1, 1) := by decide +kernel
theorem dX3_lasts_47 : decode cX3_lasts 47 = .ok (.aaload, 1) := by decide +kernel
theorem dX3_lasts_48 : decode cX3_lasts 48 = .ok (.aload_n 0, 1) := by decide +kernel
theorem dX3_lasts_49 : decode cX3_lasts 49 = .ok (.getfield 16, 3) := by decide +kernel
theorem dX3_lasts_52 : decode cX3_lasts 52 = .ok (.invokevirtual 127, 3) := by decide +kernel
theorem dX3_lasts_55 : decode cX3_lasts 55 = .ok (.iinc 2 1, 3) := by decide +kernel
theorem dX3_lasts_58 : decode cX3_lasts 58 = .ok (.goto (-40), 3) := by decide +kernel
theorem dX3_lasts_61 : decode cX3_lasts 61 = .ok (.iload_n 2, 1) := by decide +kernel
theorem dX3_lasts_62 : decode cX3_lasts 62 = .ok (.ireturn, 1) := by decide +kernel
theorem dX3_mean_0 : decode cX3_mean 0 = .ok (.aload_n 0, 1) := by decide +kernel
theorem dX3_mean_1 : decode cX3_mean 1 = .ok (.getfield 41, 3) := by decide +kernel
theorem dX3_mean_4 : decode cX3_mean 4 = .ok (.ifCond .ne 5, 3) := by decide +kernel
theorem dX3_mean_7 : decode cX3_mean 7 = .ok (.dconst 0, 1) := by decide +kernel
theorem dX3_mean_8 : decode cX3_mean 8 = .ok (.dreturn, 1) := by decide +kernel
theorem dX3_mean_9 : decode cX3_mean 9 = .ok (.iconst 0, 1) := by decide +kernel
theorem dX3_mean_10 : decode cX3_mean 10 = .ok (.istore_n 1, 1) := by decide +kernel
theorem dX3_mean_11 : decode cX3_mean 11 = .ok (.iconst 0, 1) := by decide +kernel
theorem dX3_mean_12 : decode cX3_mean 12 = .ok (.istore_n 2, 1) := by decide +kernel
theorem dX3_mean_13 : decode cX3_mean 13 = .ok (.iload_n 2, 1) := by decide +kernel
theorem dX3_mean_14 : decode cX3_mean 14 = .ok (.aload_n 0, 1) := by decide +kernel
theorem dX3_mean_15 : decode cX3_mean 15 = .ok (.getfield 41, 3) := by decide +kernel
theorem dX3_mean_18 : decode cX3_mean 18 = .ok (.if_icmp .ge 25, 3) := by decide +kernel
theorem dX3_mean_21 : decode cX3_mean 21 = .ok (.iload_n 1, 1) := by decide +kernel
theorem dX3_mean_22 : decode cX3_mean 22 = .ok (.aload_n 0, 1) := by decide +kernel
theorem dX3_mean_23 : decode cX3_mean 23 = .ok (.getfield 21, 3) := by decide +kernel
theorem dX3_mean_26 : decode cX3_mean 26 = .ok (.iload_n 2, 1) := by decide +kernel
theorem dX3_mean_27 : decode cX3_mean 27 = .ok (.aaload, 1) := by decide +kernel
theorem dX3_mean_28 : decode cX3_mean 28 = .ok (.aload_n 0, 1) := by decide +kernel
theorem dX3_mean_29 : decode cX3_mean 29 = .ok (.getfield 10, 3) := by decide +kernel
theorem dX3_mean_32 : decode cX3_mean 32 = .ok (.invokevirtual 156, 3) := by decide +kernel
theorem dX3_mean_35 : decode cX3_mean 35 = .ok (.iadd, 1) := by decide +kernel
theorem dX3_mean_36 : decode cX3_mean 36 = .ok (.istore_n 1, 1) := by decide +kernel
theorem dX3_mean_37 : decode cX3_mean 37 = .ok (.iinc 2 1, 3) := by decide +kernel
theorem dX3_mean_40 : decode cX3_mean 40 = .ok (.goto (-27), 3) := by decide +kernel
theorem dX3_mean_43 : decode cX3_mean 43 = .ok (.iload_n 1, 1) := by decide +kernel
theorem dX3_mean_44 : decode cX3_mean 44 = .ok (.i2d, 1) := by decide +kernel
theorem dX3_mean_45 : decode cX3_mean 45 = .ok (.aload_n 0, 1) := by decide +kernel
theorem dX3_mean_46 : decode cX3_mean 46 = .ok (.getfield 41, 3) := by decide +kernel
theorem dX3_mean_49 : decode cX3_mean 49 = .ok (.i2d, 1) := by decide +kernel
theorem dX3_mean_50 : decode cX3_mean 50 = .ok (.ddiv, 1) := by decide +kernel
theorem dX3_mean_51 : decode cX3_mean 51 = .ok (.dreturn, 1) := by decide +kernel
theorem dX3_digest_0 : decode cX3_digest 0 = .ok (.ldc2_w 187, 3) := by decide +kernel
theorem dX3_digest_3 : decode cX3_digest 3 = .ok (.lstore_n 1, 1) := by decide +kernel
theorem dX3_digest_4 : decode cX3_digest 4 = .ok (.iconst 0, 1) := by decide +kernel
theorem dX3_digest_5 : decode cX3_digest 5 = .ok (.istore_n 3, 1) := by decide +kernel
theorem dX3_digest_6 : decode cX3_digest 6 = .ok (.iload_n 3, 1) := by decide +kernel
theorem dX3_digest_7 : decode cX3_digest 7 = .ok (.bipush 9, 2) := by decide +kernel
theorem dX3_digest_9 : decode cX3_digest 9 = .ok (.if_icmp .ge 19, 3) := by decide +kernel
theorem dX3_digest_12 : decode cX3_digest 12 = .ok (.lload_n 1, 1) := by decide +kernel
theorem dX3_digest_13 : decode cX3_digest 13 = .ok (.aload_n 0, 1) := by decide +kernel
theorem dX3_digest_14 : decode cX3_digest 14 = .ok (.iload_n 3, 1) := by decide +kernel
theorem dX3_digest_15 : decode cX3_digest 15 = .ok (.invokevirtual 163, 3) := by decide +kernel
theorem dX3_digest_18 : decode cX3_digest 18 = .ok (.invokestatic 189, 3) := by decide +kernel
theorem dX3_digest_21 : decode cX3_digest 21 = .ok (.lstore_n 1, 1) := by decide +kernel
theorem dX3_digest_22 : decode cX3_digest 22 = .ok (.iinc 3 1, 3) := by decide +kernel
theorem dX3_digest_25 : decode cX3_digest 25 = .ok (.goto (-19), 3) := by decide +kernel
theorem dX3_digest_28 : decode cX3_digest 28 = .ok (.iconst 0, 1) := by decide +kernel
theorem dX3_digest_29 : decode cX3_digest 29 = .ok (.istore_n 3, 1) := by decide +kernel
theorem dX3_digest_30 : decode cX3_digest 30 = .ok (.iload_n 3, 1) := by decide +kernel
theorem dX3_digest_31 : decode cX3_digest 31 = .ok (.bipush 12, 2) := by decide +kernel
theorem dX3_digest_33 : decode cX3_digest 33 = .ok (.if_icmp .ge 39, 3) := by decide +kernel
theorem dX3_digest_36 : decode cX3_digest 36 = .ok (.iconst 0, 1) := by decide +kernel
theorem dX3_digest_37 : decode cX3_digest 37 = .ok (.istore 4, 2) := by decide +kernel
theorem dX3_digest_39 : decode cX3_digest 39 = .ok (.iload 4, 2) := by decide +kernel
theorem dX3_digest_41 : decode cX3_digest 41 = .ok (.iconst 5, 1) := by decide +kernel
theorem dX3_digest_42 : decode cX3_digest 42 = .ok (.if_icmp .ge 24, 3) := by decide +kernel
theorem dX3_digest_45 : decode cX3_digest 45 = .ok (.lload_n 1, 1) := by decide +kernel
theorem dX3_digest_46 : decode cX3_digest 46 = .ok (.aload_n 0, 1) := by decide +kernel
theorem dX3_digest_47 : decode cX3_digest 47 = .ok (.getfield 10, 3) := by decide +kernel
theorem dX3_digest_50 : decode cX3_digest 50 = .ok (.iload_n 3, 1) := by decide +kernel
theorem dX3_digest_51 : decode cX3_digest 51 = .ok (.iload 4, 2) := by decide +kernel
theorem dX3_digest_53 : decode cX3_digest 53 = .ok (.invokevirtual 153, 3) := by decide +kernel
theorem dX3_digest_56 : decode cX3_digest 56 = .ok (.invokestatic 189, 3) := by decide +kernel
theorem dX3_digest_59 : decode cX3_digest 59 = .ok (.lstore_n 1, 1) := by decide +kernel
theorem dX3_digest_60 : decode cX3_digest 60 = .ok (.iinc 4 1, 3) := by decide +kernel
theorem dX3_digest_63 : decode cX3_digest 63 = .ok (.goto (-24), 3) := by decide +kernel
theorem dX3_digest_66 : decode cX3_digest 66 = .ok (.iinc 3 1, 3) := by decide +kernel
theorem dX3_digest_69 : decode cX3_digest 69 = .ok (.goto (-39), 3) := by decide +kernel
theorem dX3_digest_72 : decode cX3_digest 72 = .ok (.iconst 0, 1) := by decide +kernel
theorem dX3_digest_73 : decode cX3_digest 73 = .ok (.istore_n 3, 1) := by decide +kernel
theorem dX3_digest_74 : decode cX3_digest 74 = .ok (.iload_n 3, 1) := by decide +kernel
theorem dX3_digest_75 : decode cX3_digest 75 = .ok (.bipush 7, 2) := by decide +kernel
theorem dX3_digest_77 : decode cX3_digest 77 = .ok (.if_icmp .ge 20, 3) := by decide +kernel
theorem dX3_digest_80 : decode cX3_digest 80 = .ok (.lload_n 1, 1) := by decide +kernel
theorem dX3_digest_81 : decode cX3_digest 81 = .ok (.aload_n 0, 1) := by decide +kernel
theorem dX3_digest_82 : decode cX3_digest 82 = .ok (.getfield 33, 3) := by decide +kernel
theorem dX3_digest_85 : decode cX3_digest 85 = .ok (.iload_n 3, 1) := by decide +kernel
theorem dX3_digest_86 : decode cX3_digest 86 = .ok (.iaload, 1) := by decide +kernel
theorem dX3_digest_87 : decode cX3_digest 87 = .ok (.invokestatic 189, 3) := by decide +kernel
theorem dX3_digest_90 : decode cX3_digest 90 = .ok (.lstore_n 1, 1) := by decide +kernel
theorem dX3_digest_91 : decode cX3_digest 91 = .ok (.iinc 3 1, 3) := by decide +kernel
theorem dX3_digest_94 : decode cX3_digest 94 = .ok (.goto (-20), 3) := by decide +kernel
theorem dX3_digest_97 : decode cX3_digest 97 = .ok (.iconst 0, 1) := by decide +kernel
theorem dX3_digest_98 : decode cX3_digest 98 = .ok (.istore_n 3, 1) := by decide +kernel
theorem dX3_digest_99 : decode cX3_digest 99 = .ok (.iload_n 3, 1) := by decide +kernel
theorem dX3_digest_100 : decode cX3_digest 100 = .ok (.aload_n 0, 1) := by decide +kernel
theorem dX3_digest_101 : decode cX3_digest 101 = .ok (.getfield 41, 3) := by decide +kernel
theorem dX3_digest_104 : decode cX3_digest 104 = .ok (.if_icmp .ge 21, 3) := by decide +kernel
theorem dX3_digest_107 : decode cX3_digest 107 = .ok (.aload_n 0, 1) := by decide +kernel
theorem dX3_digest_108 : decode cX3_digest 108 = .ok (.lload_n 1, 1) := by decide +kernel
theorem dX3_digest_109 : decode cX3_digest 109 = .ok (.aload_n 0, 1) := by decide +kernel
theorem dX3_digest_110 : decode cX3_digest 110 = .ok (.getfield 21, 3) := by decide +kernel
theorem dX3_digest_113 : decode cX3_digest 113 = .ok (.iload_n 3, 1) := by decide +kernel
theorem dX3_digest_114 : decode cX3_digest 114 = .ok (.aaload, 1) := by decide +kernel
theorem dX3_digest_115 : decode cX3_digest 115 = .ok (.invokevirtual 193, 3) := by decide +kernel
theorem dX3_digest_118 : decode cX3_digest 118 = .ok (.lstore_n 1, 1) := by decide +kernel
theorem dX3_digest_119 : decode cX3_digest 119 = .ok (.iinc 3 1, 3) := by decide +kernel
theorem dX3_digest_122 : decode cX3_digest 122 = .ok (.goto (-23), 3) := by decide +kernel
theorem dX3_digest_125 : decode cX3_digest 125 = .ok (.iconst 0, 1) := by decide +kernel
theorem dX3_digest_126 : decode cX3_digest 126 = .ok (.istore_n 3, 1) := by decide +kernel
theorem dX3_digest_127 : decode cX3_digest 127 = .ok (.iload_n 3, 1) := by decide +kernel
theorem dX3_digest_128 : decode cX3_digest 128 = .ok (.aload_n 0, 1) := by decide +kernel
theorem dX3_digest_129 : decode cX3_digest 129 = .ok (.getfield 83, 3) := by decide +kernel
theorem dX3_digest_132 : decode cX3_digest 132 = .ok (.if_icmp .ge 16, 3) := by decide +kernel
theorem dX3_digest_135 : decode cX3_digest 135 = .ok (.aload_n 0, 1) := by decide +kernel
theorem dX3_digest_136 : decode cX3_digest 136 = .ok (.lload_n 1, 1) := by decide +kernel
theorem dX3_digest_137 : decode cX3_digest 137 = .ok (.iload_n 3, 1) := by decide +kernel
theorem dX3_digest_138 : decode cX3_digest 138 = .ok (.invokevirtual 197, 3) := by decide +kernel
theorem dX3_digest_141 : decode cX3_digest 141 = .ok (.lstore_n 1, 1) := by decide +kernel
theorem dX3_digest_142 : decode cX3_digest 142 = .ok (.iinc 3 1, 3) := by decide +kernel
theorem dX3_digest_145 : decode cX3_digest 145 = .ok (.goto (-18), 3) := by decide +kernel
theorem dX3_digest_148 : decode cX3_digest 148 = .ok (.lload_n 1, 1) := by decide +kernel
theorem dX3_digest_149 : decode cX3_digest 149 = .ok (.lreturn, 1) := by decide +kernel
theorem dX3_checkTune_0 : decode cX3_checkTune 0 = .ok (.iload_n 1, 1) := by decide +kernel
theorem dX3_checkTune_1 : decode cX3_checkTune 1 = .ok (.ifCond .lt 11, 3) := by decide +kernel
theorem dX3_checkTune_4 : decode cX3_checkTune 4 = .ok (.iload_n 1, 1) := by decide +kernel
theorem dX3_checkTune_5 : decode cX3_checkTune 5 = .ok (.aload_n 0, 1) := by decide +kernel
theorem dX3_checkTune_6 : decode cX3_checkTune 6 = .ok (.getfield 41, 3) := by decide +kernel
theorem dX3_checkTune_9 : decode cX3_checkTune 9 = .ok (.if_icmp .lt 13, 3) := by decide +kernel
theorem dX3_checkTune_12 : decode cX3_checkTune 12 = .ok (.new 67, 3) := by decide +kernel
theorem dX3_checkTune_15 : decode cX3_checkTune 15 = .ok (.dup, 1) := by decide +kernel
theorem dX3_checkTune_16 : decode cX3_checkTune 16 = .ok (.ldc 200, 2) := by decide +kernel
theorem dX3_checkTune_18 : decode cX3_checkTune 18 = .ok (.invokespecial 71, 3) := by decide +kernel
theorem dX3_checkTune_21 : decode cX3_checkTune 21 = .ok (.athrow, 1) := by decide +kernel
theorem dX3_checkTune_22 : decode cX3_checkTune 22 = .ok (.return_, 1) := by decide +kernel
theorem dX3_checkStreet_0 : decode cX3_checkStreet 0 = .ok (.iload_n 1, 1) := by decide +kernel
theorem dX3_checkStreet_1 : decode cX3_checkStreet 1 = .ok (.ifCond .lt 11, 3) := by decide +kernel
theorem dX3_checkStreet_4 : decode cX3_checkStreet 4 = .ok (.iload_n 1, 1) := by decide +kernel
theorem dX3_checkStreet_5 : decode cX3_checkStreet 5 = .ok (.aload_n 0, 1) := by decide +kernel
theorem dX3_checkStreet_6 : decode cX3_checkStreet 6 = .ok (.getfield 83, 3) := by decide +kernel
theorem dX3_checkStreet_9 : decode cX3_checkStreet 9 = .ok (.if_icmp .lt 13, 3) := by decide +kernel
theorem dX3_checkStreet_12 : decode cX3_checkStreet 12 = .ok (.new 67, 3) := by decide +kernel
theorem dX3_checkStreet_15 : decode cX3_checkStreet 15 = .ok (.dup, 1) := by decide +kernel
theorem dX3_checkStreet_16 : decode cX3_checkStreet 16 = .ok (.ldc 202, 2) := by decide +kernel
theorem dX3_checkStreet_18 : decode cX3_checkStreet 18 = .ok (.invokespecial 71, 3) := by decide +kernel
theorem dX3_checkStreet_21 : decode cX3_checkStreet 21 = .ok (.athrow, 1) := by decide +kernel
theorem dX3_checkStreet_22 : decode cX3_checkStreet 22 = .ok (.return_, 1) := by decide +kernel
theorem dX3_checkPipe_0 : decode cX3_checkPipe 0 = .ok (.iload_n 0, 1) := by decide +kernel
theorem dX3_checkPipe_1 : decode cX3_checkPipe 1 = .ok (.ifCond .lt 9, 3) := by decide +kernel
theorem dX3_checkPipe_4 : decode cX3_checkPipe 4 = .ok (.iload_n 0, 1) := by decide +kernel
theorem dX3_checkPipe_5 : decode cX3_checkPipe 5 = .ok (.bipush 12, 2) := by decide +kernel
theorem dX3_checkPipe_7 : decode cX3_checkPipe 7 = .ok (.if_icmp .lt 13, 3) := by decide +kernel
theorem dX3_checkPipe_10 : decode cX3_checkPipe 10 = .ok (.new 67, 3) := by decide +kernel
theorem dX3_checkPipe_13 : decode cX3_checkPipe 13 = .ok (.dup, 1) := by decide +kernel
theorem dX3_checkPipe_14 : decode cX3_checkPipe 14 = .ok (.ldc 204, 2) := by decide +kernel
theorem dX3_checkPipe_16 : decode cX3_checkPipe 16 = .ok (.invokespecial 71, 3) := by decide +kernel
theorem dX3_checkPipe_19 : decode cX3_checkPipe 19 = .ok (.athrow, 1) := by decide +kernel
theorem dX3_checkPipe_20 : decode cX3_checkPipe 20 = .ok (.return_, 1) := by decide +kernel
theorem dX3_checkPermits_0 : decode cX3_checkPermits 0 = .ok (.iload_n 0, 1) := by decide +kernel
theorem dX3_checkPermits_1 : decode cX3_checkPermits 1 = .ok (.ifCond .lt 9, 3) := by decide +kernel
theorem dX3_checkPermits_4 : decode cX3_checkPermits 4 = .ok (.iload_n 0, 1) := by decide +kernel
theorem dX3_checkPermits_5 : decode cX3_checkPermits 5 = .ok (.bipush 127, 2) := by decide +kernel
theorem dX3_checkPermits_7 : decode cX3_checkPermits 7 = .ok (.if_icmp .le 13, 3) := by decide +kernel
theorem dX3_checkPermits_10 : decode cX3_checkPermits 10 = .ok (.new 75, 3) := by decide +kernel
theorem dX3_checkPermits_13 : decode cX3_checkPermits 13 = .ok (.dup, 1) := by decide +kernel
theorem dX3_checkPermits_14 : decode cX3_checkPermits 14 = .ok (.ldc 206, 2) := by decide +kernel
theorem dX3_checkPermits_16 : decode cX3_checkPermits 16 = .ok (.invokespecial 79, 3) := by decide +kernel
theorem dX3_checkPermits_19 : decode cX3_checkPermits 19 = .ok (.athrow, 1) := by decide +kernel
theorem dX3_checkPermits_20 : decode cX3_checkPermits 20 = .ok (.return_, 1) := by decide +kernel
theorem dX3_checkNights_0 : decode cX3_checkNights 0 = .ok (.iload_n 0, 1) := by decide +kernel
theorem dX3_checkNights_1 : decode cX3_checkNights 1 = .ok (.iconst 1, 1) := by decide +kernel
theorem dX3_checkNights_2 : decode cX3_checkNights 2 = .ok (.if_icmp .lt 9, 3) := by decide +kernel
theorem dX3_checkNights_5 : decode cX3_checkNights 5 = .ok (.iload_n 0, 1) := by decide +kernel
theorem dX3_checkNights_6 : decode cX3_checkNights 6 = .ok (.bipush 60, 2) := by decide +kernel
theorem dX3_checkNights_8 : decode cX3_checkNights 8 = .ok (.if_icmp .le 13, 3) := by decide +kernel
theorem dX3_checkNights_11 : decode cX3_checkNights 11 = .ok (.new 75, 3) := by decide +kernel
theorem dX3_checkNights_14 : decode cX3_checkNights 14 = .ok (.dup, 1) := by decide +kernel
theorem dX3_checkNights_15 : decode cX3_checkNights 15 = .ok (.ldc 208, 2) := by decide +kernel
theorem dX3_checkNights_17 : decode cX3_checkNights 17 = .ok (.invokespecial 79, 3) := by decide +kernel
theorem dX3_checkNights_20 : decode cX3_checkNights 20 = .ok (.athrow, 1) := by decide +kernel
theorem dX3_checkNights_21 : decode cX3_checkNights 21 = .ok (.return_, 1) := by decide +kernel
theorem dX3_weekdayOf_0 : decode cX3_weekdayOf 0 = .ok (.iload_n 0, 1) := by decide +kernel
theorem dX3_weekdayOf_1 : decode cX3_weekdayOf 1 = .ok (.bipush 7, 2) := by decide +kernel
theorem dX3_weekdayOf_3 : decode cX3_weekdayOf 3 = .ok (.invokestatic 210, 3) := by decide +kernel
theorem dX3_weekdayOf_6 : decode cX3_weekdayOf 6 = .ok (.ireturn, 1) := by decide +kernel
theorem dX3_payNow_0 : decode cX3_payNow 0 = .ok (.aload_n 0, 1) := by decide +kernel
theorem dX3_payNow_1 : decode cX3_payNow 1 = .ok (.getfield 28, 3) := by decide +kernel
theorem dX3_payNow_4 : decode cX3_payNow 4 = .ok (.iload_n 1, 1) := by decide +kernel
theorem dX3_payNow_5 : decode cX3_payNow 5 = .ok (.aaload, 1) := by decide +kernel
theorem dX3_payNow_6 : decode cX3_payNow 6 = .ok (.iload_n 2, 1) := by decide +kernel
theorem dX3_payNow_7 : decode cX3_payNow 7 = .ok (.aload_n 0, 1) := by decide +kernel
theorem dX3_payNow_8 : decode cX3_payNow 8 = .ok (.getfield 21, 3) := by decide +kernel
theorem dX3_payNow_11 : decode cX3_payNow 11 = .ok (.iload_n 2, 1) := by decide +kernel
theorem dX3_payNow_12 : decode cX3_payNow 12 = .ok (.aaload, 1) := by decide +kernel
theorem dX3_payNow_13 : decode cX3_payNow 13 = .ok (.aload_n 0, 1) := by decide +kernel
theorem dX3_payNow_14 : decode cX3_payNow 14 = .ok (.getfield 10, 3) := by decide +kernel
theorem dX3_payNow_17 : decode cX3_payNow 17 = .ok (.invokevirtual 156, 3) := by decide +kernel
theorem dX3_payNow_20 : decode cX3_payNow 20 = .ok (.invokevirtual 215, 3) := by decide +kernel
theorem dX3_payNow_23 : decode cX3_payNow 23 = .ok (.ireturn, 1) := by decide +kernel
theorem dX3_payFine_0 : decode cX3_payFine 0 = .ok (.bipush 10, 2) := by decide +kernel
theorem dX3_payFine_2 : decode cX3_payFine 2 = .ok (.aload_n 0, 1) := by decide +kernel
theorem dX3_payFine_3 : decode cX3_payFine 3 = .ok (.getfield 37, 3) := by decide +kernel
theorem dX3_payFine_6 : decode cX3_payFine 6 = .ok (.invokestatic 218, 3) := by decide +kernel
theorem dX3_payFine_9 : decode cX3_payFine 9 = .ok (.istore_n 1, 1) := by decide +kernel
theorem dX3_payFine_10 : decode cX3_payFine 10 = .ok (.aload_n 0, 1) := by decide +kernel
theorem dX3_payFine_11 : decode cX3_payFine 11 = .ok (.dup, 1) := by decide +kernel
theorem dX3_payFine_12 : decode cX3_payFine 12 = .ok (.getfield 37, 3) := by decide +kernel
theorem dX3_payFine_15 : decode cX3_payFine 15 = .ok (.iload_n 1, 1) := by decide +kernel
theorem dX3_payFine_16 : decode cX3_payFine 16 = .ok (.isub, 1) := by decide +kernel
theorem dX3_payFine_17 : decode cX3_payFine 17 = .ok (.putfield 37, 3) := by decide +kernel
theorem dX3_payFine_20 : decode cX3_payFine 20 = .ok (.aload_n 0, 1) := by decide +kernel
theorem dX3_payFine_21 : decode cX3_payFine 21 = .ok (.dup, 1) := by decide +kernel
theorem dX3_payFine_22 : decode cX3_payFine 22 = .ok (.getfield 221, 3) := by decide +kernel
theorem dX3_payFine_25 : decode cX3_payFine 25 = .ok (.iload_n 1, 1) := by decide +kernel
theorem dX3_payFine_26 : decode cX3_payFine 26 = .ok (.iadd, 1) := by decide +kernel
theorem dX3_payFine_27 : decode cX3_payFine 27 = .ok (.putfield 221, 3) := by decide +kernel
theorem dX3_payFine_30 : decode cX3_payFine 30 = .ok (.iload_n 1, 1) := by decide +kernel
theorem dX3_payFine_31 : decode cX3_payFine 31 = .ok (.ireturn, 1) := by decide +kernel
theorem dX3_passNights_0 : decode cX3_passNights 0 = .ok (.iconst 0, 1) := by decide +kernel
theorem dX3_passNights_1 : decode cX3_passNights 1 = .ok (.istore_n 3, 1) := by decide +kernel
theorem dX3_passNights_2 : decode cX3_passNights 2 = .ok (.iconst 0, 1) := by decide +kernel
theorem dX3_passNights_3 : decode cX3_passNights 3 = .ok (.istore 4, 2) := by decide +kernel
theorem dX3_passNights_5 : decode cX3_passNights 5 = .ok (.iload 4, 2) := by decide +kernel
theorem dX3_passNights_7 : decode cX3_passNights 7 = .ok (.iload_n 2, 1) := by decide +kernel
theorem dX3_passNights_8 : decode cX3_passNights 8 = .ok (.if_icmp .ge 31, 3) := by decide +kernel
theorem dX3_passNights_11 : decode cX3_passNights 11 = .ok (.iload_n 3, 1) := by decide +kernel
theorem dX3_passNights_12 : decode cX3_passNights 12 = .ok (.aload_n 1, 1) := by decide +kernel
theorem dX3_passNights_13 : decode cX3_passNights 13 = .ok (.aload_n 0, 1) := by decide +kernel
theorem dX3_passNights_14 : decode cX3_passNights 14 = .ok (.getfield 33, 3) := by decide +kernel
theorem dX3_passNights_17 : decode cX3_passNights 17 = .ok (.aload_n 0, 1) := by decide +kernel
theorem dX3_passNights_18 : decode cX3_passNights 18 = .ok (.getfield 103, 3) := by decide +kernel
theorem dX3_passNights_21 : decode cX3_passNights 21 = .ok (.iload 4, 2) := by decide +kernel
theorem dX3_passNights_23 : decode cX3_passNights 23 = .ok (.iadd, 1) := by decide +kernel
theorem dX3_passNights_24 : decode cX3_passNights 24 = .ok (.invokestatic 106, 3) := by decide +kernel
theorem dX3_passNights_27 : decode cX3_passNights 27 = .ok (.iaload, 1) := by decide +kernel
theorem dX3_passNights_28 : decode cX3_passNights 28 = .ok (.invokevirtual 224, 3) := by decide +kernel
theorem dX3_passNights_31 : decode cX3_passNights 31 = .ok (.iadd, 1) := by decide +kernel
theorem dX3_passNights_32 : decode cX3_passNights 32 = .ok (.istore_n 3, 1) := by decide +kernel
theorem dX3_passNights_33 : decode cX3_passNights 33 = .ok (.iinc 4 1, 3) := by decide +kernel
theorem dX3_passNights_36 : decode cX3_passNights 36 = .ok (.goto (-31), 3) := by decide +kernel
theorem dX3_passNights_39 : decode cX3_passNights 39 = .ok (.iload_n 3, 1) := by decide +kernel
theorem dX3_passNights_40 : decode cX3_passNights 40 = .ok (.ireturn, 1) := by decide +kernel
theorem dX3_countNow_0 : decode cX3_countNow 0 = .ok (.iload_n 1, 1) := by decide +kernel
theorem dX3_countNow_1 : decode cX3_countNow 1 = .ok (.tableswitch 84 0 8 #[51, 56, 64, 69, 74, 84, 84, 84, 79], 51) := by decide +kernel
theorem dX3_countNow_52 : decode cX3_countNow 52 = .ok (.aload_n 0, 1) := by decide +kernel
theorem dX3_countNow_53 : decode cX3_countNow 53 = .ok (.getfield 103, 3) := by decide +kernel
theorem dX3_countNow_56 : decode cX3_countNow 56 = .ok (.ireturn, 1) := by decide +kernel
theorem dX3_countNow_57 : decode cX3_countNow 57 = .ok (.aload_n 0, 1) := by decide +kernel
theorem dX3_countNow_58 : decode cX3_countNow 58 = .ok (.getfield 103, 3) := by decide +kernel
theorem dX3_countNow_61 : decode cX3_countNow 61 = .ok (.invokestatic 106, 3) := by decide +kernel
theorem dX3_countNow_64 : decode cX3_countNow 64 = .ok (.ireturn, 1) := by decide +kernel
theorem dX3_countNow_65 : decode cX3_countNow 65 = .ok (.aload_n 0, 1) := by decide +kernel
theorem dX3_countNow_66 : decode cX3_countNow 66 = .ok (.getfield 37, 3) := by decide +kernel
theorem dX3_countNow_69 : decode cX3_countNow 69 = .ok (.ireturn, 1) := by decide +kernel
theorem dX3_countNow_70 : decode cX3_countNow 70 = .ok (.aload_n 0, 1) := by decide +kernel
theorem dX3_countNow_71 : decode cX3_countNow 71 = .ok (.getfield 41, 3) := by decide +kernel
theorem dX3_countNow_74 : decode cX3_countNow 74 = .ok (.ireturn, 1) := by decide +kernel
theorem dX3_countNow_75 : decode cX3_countNow 75 = .ok (.aload_n 0, 1) := by decide +kernel
theorem dX3_countNow_76 : decode cX3_countNow 76 = .ok (.getfield 83, 3) := by decide +kernel
theorem dX3_countNow_79 : decode cX3_countNow 79 = .ok (.ireturn, 1) := by decide +kernel
theorem dX3_countNow_80 : decode cX3_countNow 80 = .ok (.aload_n 0, 1) := by decide +kernel
theorem dX3_countNow_81 : decode cX3_countNow 81 = .ok (.getfield 221, 3) := by decide +kernel
theorem dX3_countNow_84 : decode cX3_countNow 84 = .ok (.ireturn, 1) := by decide +kernel
theorem dX3_countNow_85 : decode cX3_countNow 85 = .ok (.aload_n 0, 1) := by decide +kernel
theorem dX3_countNow_86 : decode cX3_countNow 86 = .ok (.getfield 10, 3) := by decide +kernel
theorem dX3_countNow_89 : decode cX3_countNow 89 = .ok (.iload_n 1, 1) := by decide +kernel
theorem dX3_countNow_90 : decode cX3_countNow 90 = .ok (.invokevirtual 184, 3) := by decide +kernel
theorem dX3_countNow_93 : decode cX3_countNow 93 = .ok (.ireturn, 1) := by decide +kernel
theorem dX3_mix_0 : decode cX3_mix 0 = .ok (.lload_n 0, 1) := by decide +kernel
theorem dX3_mix_1 : decode cX3_mix 1 = .ok (.ldc2_w 227, 3) := by decide +kernel
theorem dX3_mix_4 : decode cX3_mix 4 = .ok (.lmul, 1) := by decide +kernel
theorem dX3_mix_5 : decode cX3_mix 5 = .ok (.iload_n 2, 1) := by decide +kernel
theorem dX3_mix_6 : decode cX3_mix 6 = .ok (.i2l, 1) := by decide +kernel
theorem dX3_mix_7 : decode cX3_mix 7 = .ok (.ladd, 1) := by decide +kernel
theorem dX3_mix_8 : decode cX3_mix 8 = .ok (.lreturn, 1) := by decide +kernel
theorem dX3_mixTune_0 : decode cX3_mixTune 0 = .ok (.lload_n 1, 1) := by decide +kernel
theorem dX3_mixTune_1 : decode cX3_mixTune 1 = .ok (.aload_n 3, 1) := by decide +kernel
theorem dX3_mixTune_2 : decode cX3_mixTune 2 = .ok (.getfield 58, 3) := by decide +kernel
theorem dX3_mixTune_5 : decode cX3_mixTune 5 = .ok (.invokestatic 189, 3) := by decide +kernel
theorem dX3_mixTune_8 : decode cX3_mixTune 8 = .ok (.lstore 4, 2) := by decide +kernel
theorem dX3_mixTune_10 : decode cX3_mixTune 10 = .ok (.iconst 0, 1) := by decide +kernel
theorem dX3_mixTune_11 : decode cX3_mixTune 11 = .ok (.istore 6, 2) := by decide +kernel
theorem dX3_mixTune_13 : decode cX3_mixTune 13 = .ok (.iload 6, 2) := by decide +kernel
theorem dX3_mixTune_15 : decode cX3_mixTune 15 = .ok (.aload_n 3, 1) := by decide +kernel
theorem dX3_mixTune_16 : decode cX3_mixTune 16 = .ok (.getfield 58, 3) := by decide +kernel
theorem dX3_mixTune_19 : decode cX3_mixTune 19 = .ok (.if_icmp .ge 30, 3) := by decide +kernel
theorem dX3_mixTune_22 : decode cX3_mixTune 22 = .ok (.iload 6, 2) := by decide +kernel
theorem dX3_mixTune_24 : decode cX3_mixTune 24 = .ok (.bipush 16, 2) := by decide +kernel
theorem dX3_mixTune_26 : decode cX3_mixTune 26 = .ok (.if_icmp .ge 23, 3) := by decide +kernel
theorem dX3_mixTune_29 : decode cX3_mixTune 29 = .ok (.lload 4, 2) := by decide +kernel
theorem dX3_mixTune_31 : decode cX3_mixTune 31 = .ok (.aload_n 3, 1) := by decide +kernel
theorem dX3_mixTune_32 : decode cX3_mixTune 32 = .ok (.getfield 72, 3) := by decide +kernel
theorem dX3_mixTune_35 : decode cX3_mixTune 35 = .ok (.iload 6, 2) := by decide +kernel
theorem dX3_mixTune_37 : decode cX3_mixTune 37 = .ok (.iaload, 1) := by decide +kernel
theorem dX3_mixTune_38 : decode cX3_mixTune 38 = .ok (.invokestatic 189, 3) := by decide +kernel
theorem dX3_mixTune_41 : decode cX3_mixTune 41 = .ok (.lstore 4, 2) := by decide +kernel
theorem dX3_mixTune_43 : decode cX3_mixTune 43 = .ok (.iinc 6 1, 3) := by decide +kernel
theorem dX3_mixTune_46 : decode cX3_mixTune 46 = .ok (.goto (-33), 3) := by decide +kernel
theorem dX3_mixTune_49 : decode cX3_mixTune 49 = .ok (.lload 4, 2) := by decide +kernel
theorem dX3_mixTune_51 : decode cX3_mixTune 51 = .ok (.aload_n 3, 1) := by decide +kernel
theorem dX3_mixTune_52 : decode cX3_mixTune 52 = .ok (.aload_n 0, 1) := by decide +kernel
theorem dX3_mixTune_53 : decode cX3_mixTune 53 = .ok (.getfield 10, 3) := by decide +kernel
theorem dX3_mixTune_56 : decode cX3_mixTune 56 = .ok (.invokevirtual 156, 3) := by decide +kernel
theorem dX3_mixTune_59 : decode cX3_mixTune 59 = .ok (.invokestatic 189, 3) := by decide +kernel
theorem dX3_mixTune_62 : decode cX3_mixTune 62 = .ok (.lreturn, 1) := by decide +kernel
theorem dX3_mixStreet_0 : decode cX3_mixStreet 0 = .ok (.lload_n 1, 1) := by decide +kernel
theorem dX3_mixStreet_1 : decode cX3_mixStreet 1 = .ok (.lstore 4, 2) := by decide +kernel
theorem dX3_mixStreet_3 : decode cX3_mixStreet 3 = .ok (.iconst 0, 1) := by decide +kernel
theorem dX3_mixStreet_4 : decode cX3_mixStreet 4 = .ok (.istore 6, 2) := by decide +kernel
theorem dX3_mixStreet_6 : decode cX3_mixStreet 6 = .ok (.iload 6, 2) := by decide +kernel
theorem dX3_mixStreet_8 : decode cX3_mixStreet 8 = .ok (.iconst 5, 1) := by decide +kernel
theorem dX3_mixStreet_9 : decode cX3_mixStreet 9 = .ok (.if_icmp .ge 34, 3) := by decide +kernel
theorem dX3_mixStreet_12 : decode cX3_mixStreet 12 = .ok (.lload 4, 2) := by decide +kernel
theorem dX3_mixStreet_14 : decode cX3_mixStreet 14 = .ok (.aload_n 0, 1) := by decide +kernel
theorem dX3_mixStreet_15 : decode cX3_mixStreet 15 = .ok (.getfield 28, 3) := by decide +kernel
theorem dX3_mixStreet_18 : decode cX3_mixStreet 18 = .ok (.iload_n 3, 1) := by decide +kernel
theorem dX3_mixStreet_19 : decode cX3_mixStreet 19 = .ok (.aaload, 1) := by decide +kernel
theorem dX3_mixStreet_20 : decode cX3_mixStreet 20 = .ok (.iload 6, 2) := by decide +kernel
theorem dX3_mixStreet_22 : decode cX3_mixStreet 22 = .ok (.aload_n 0, 1) := by decide +kernel
theorem dX3_mixStreet_23 : decode cX3_mixStreet 23 = .ok (.getfield 103, 3) := by decide +kernel
theorem dX3_mixStreet_26 : decode cX3_mixStreet 26 = .ok (.invokestatic 106, 3) := by decide +kernel
theorem dX3_mixStreet_29 : decode cX3_mixStreet 29 = .ok (.invokevirtual 160, 3) := by decide +kernel
theorem dX3_mixStreet_32 : decode cX3_mixStreet 32 = .ok (.invokestatic 189, 3) := by decide +kernel
theorem dX3_mixStreet_35 : decode cX3_mixStreet 35 = .ok (.lstore 4, 2) := by decide +kernel
theorem dX3_mixStreet_37 : decode cX3_mixStreet 37 = .ok (.iinc 6 1, 3) := by decide +kernel
theorem dX3_mixStreet_40 : decode cX3_mixStreet 40 = .ok (.goto (-34), 3) := by decide +kernel
theorem dX3_mixStreet_43 : decode cX3_mixStreet 43 = .ok (.iconst 0, 1) := by decide +kernel
theorem dX3_mixStreet_44 : decode cX3_mixStreet 44 = .ok (.istore 6, 2) := by decide +kernel
theorem dX3_mixStreet_46 : decode cX3_mixStreet 46 = .ok (.iload 6, 2) := by decide +kernel
theorem dX3_mixStreet_48 : decode cX3_mixStreet 48 = .ok (.aload_n 0, 1) := by decide +kernel
theorem dX3_mixStreet_49 : decode cX3_mixStreet 49 = .ok (.getfield 41, 3) := by decide +kernel
theorem dX3_mixStreet_52 : decode cX3_mixStreet 52 = .ok (.if_icmp .ge 23, 3) := by decide +kernel
theorem dX3_mixStreet_55 : decode cX3_mixStreet 55 = .ok (.lload 4, 2) := by decide +kernel
theorem dX3_mixStreet_57 : decode cX3_mixStreet 57 = .ok (.aload_n 0, 1) := by decide +kernel
theorem dX3_mixStreet_58 : decode cX3_mixStreet 58 = .ok (.iload_n 3, 1) := by decide +kernel
theorem dX3_mixStreet_59 : decode cX3_mixStreet 59 = .ok (.iload 6, 2) := by decide +kernel
theorem dX3_mixStreet_61 : decode cX3_mixStreet 61 = .ok (.invokevirtual 117, 3) := by decide +kernel
theorem dX3_mixStreet_64 : decode cX3_mixStreet 64 = .ok (.invokestatic 189, 3) := by decide +kernel
theorem dX3_mixStreet_67 : decode cX3_mixStreet 67 = .ok (.lstore 4, 2) := by decide +kernel
theorem dX3_mixStreet_69 : decode cX3_mixStreet 69 = .ok (.iinc 6 1, 3) := by decide +kernel
theorem dX3_mixStreet_72 : decode cX3_mixStreet 72 = .ok (.goto (-26), 3) := by decide +kernel
theorem dX3_mixStreet_75 : decode cX3_mixStreet 75 = .ok (.lload 4, 2) := by decide +kernel
theorem dX3_mixStreet_77 : decode cX3_mixStreet 77 = .ok (.lreturn, 1) := by decide +kernel
end
section
theorem dX4_init_0 : decode cX4_init 0 = .ok (.aload_n 0, 1) := by decide +kernel
theorem dX4_init_1 : decode cX4_init 1 = .ok (.invokespecial 3, 3) := by decide +kernel
theorem dX4_init_4 : decode cX4_init 4 = .ok (.aload_n 0, 1) := by decide +kernel
theorem dX4_init_5 : decode cX4_init 5 = .ok (.bipush 12, 2) := by decide +kernel
theorem dX4_init_7 : decode cX4_init 7 = .ok (.newarray .int, 2) := by decide +kernel
theorem dX4_init_9 : decode cX4_init 9 = .ok (.putfield 9, 3) := by decide +kernel
theorem dX4_init_12 : decode cX4_init 12 = .ok (.aload_n 0, 1) := by decide +kernel
theorem dX4_init_13 : decode cX4_init 13 = .ok (.bipush 12, 2) := by decide +kernel
theorem dX4_init_15 : decode cX4_init 15 = .ok (.newarray .int, 2) := by decide +kernel
theorem dX4_init_17 : decode cX4_init 17 = .ok (.putfield 15, 3) := by decide +kernel
theorem dX4_init_20 : decode cX4_init 20 = .ok (.aload_n 0, 1) := by decide +kernel
theorem dX4_init_21 : decode cX4_init 21 = .ok (.bipush 12, 2) := by decide +kernel
theorem dX4_init_23 : decode cX4_init 23 = .ok (.newarray .int, 2) := by decide +kernel
theorem dX4_init_25 : decode cX4_init 25 = .ok (.putfield 18, 3) := by decide +kernel
theorem dX4_init_28 : decode cX4_init 28 = .ok (.aload_n 0, 1) := by decide +kernel
theorem dX4_init_29 : decode cX4_init 29 = .ok (.bipush 12, 2) := by decide +kernel
theorem dX4_init_31 : decode cX4_init 31 = .ok (.newarray .int, 2) := by decide +kernel
theorem dX4_init_33 : decode cX4_init 33 = .ok (.putfield 21, 3) := by decide +kernel
theorem dX4_init_36 : decode cX4_init 36 = .ok (.return_, 1) := by decide +kernel
theorem dX4_become_0 : decode cX4_become 0 = .ok (.aload_n 0, 1) := by decide +kernel
theorem dX4_become_1 : decode cX4_become 1 = .ok (.aload_n 1, 1) := by decide +kernel
theorem dX4_become_2 : decode cX4_become 2 = .ok (.getfield 24, 3) := by decide +kernel
theorem dX4_become_5 : decode cX4_become 5 = .ok (.putfield 24, 3) := by decide +kernel
theorem dX4_become_8 : decode cX4_become 8 = .ok (.aload_n 1, 1) := by decide +kernel
theorem dX4_become_9 : decode cX4_become 9 = .ok (.getfield 9, 3) := by decide +kernel
theorem dX4_become_12 : decode cX4_become 12 = .ok (.iconst 0, 1) := by decide +kernel
theorem dX4_become_13 : decode cX4_become 13 = .ok (.aload_n 0, 1) := by decide +kernel
theorem dX4_become_14 : decode cX4_become 14 = .ok (.getfield 9, 3) := by decide +kernel
theorem dX4_become_17 : decode cX4_become 17 = .ok (.iconst 0, 1) := by decide +kernel
theorem dX4_become_18 : decode cX4_become 18 = .ok (.bipush 12, 2) := by decide +kernel
theorem dX4_become_20 : decode cX4_become 20 = .ok (.invokestatic 28, 3) := by decide +kernel
theorem dX4_become_23 : decode cX4_become 23 = .ok (.aload_n 1, 1) := by decide +kernel
theorem dX4_become_24 : decode cX4_become 24 = .ok (.getfield 15, 3) := by decide +kernel
theorem dX4_become_27 : decode cX4_become 27 = .ok (.iconst 0, 1) := by decide +kernel
theorem dX4_become_28 : decode cX4_become 28 = .ok (.aload_n 0, 1) := by decide +kernel
theorem dX4_become_29 : decode cX4_become 29 = .ok (.getfield 15, 3) := by decide +kernel
theorem dX4_become_32 : decode cX4_become 32 = .ok (.iconst 0, 1) := by decide +kernel
theorem dX4_become_33 : decode cX4_become 33 = .ok (.bipush 12, 2) := by decide +kernel
theorem dX4_become_35 : decode cX4_become 35 = .ok (.invokestatic 28, 3) := by decide +kernel
theorem dX4_become_38 : decode cX4_become 38 = .ok (.aload_n 1, 1) := by decide +kernel
theorem dX4_become_39 : decode cX4_become 39 = .ok (.getfield 18, 3) := by decide +kernel
theorem dX4_become_42 : decode cX4_become 42 = .ok (.iconst 0, 1) := by decide +kernel
theorem dX4_become_43 : decode cX4_become 43 = .ok (.aload_n 0, 1) := by decide +kernel
theorem dX4_become_44 : decode cX4_become 44 = .ok (.getfield 18, 3) := by decide +kernel
theorem dX4_become_47 : decode cX4_become 47 = .ok (.iconst 0, 1) := by decide +kernel
theorem dX4_become_48 : decode cX4_become 48 = .ok (.bipush 12, 2) := by decide +kernel
theorem dX4_become_50 : decode cX4_become 50 = .ok (.invokestatic 28, 3) := by decide +kernel
theorem dX4_become_53 : decode cX4_become 53 = .ok (.aload_n 1, 1) := by decide +kernel
theorem dX4_become_54 : decode cX4_become 54 = .ok (.getfield 21, 3) := by decide +kernel
theorem dX4_become_57 : decode cX4_become 57 = .ok (.iconst 0, 1) := by decide +kernel
theorem dX4_become_58 : decode cX4_become 58 = .ok (.aload_n 0, 1) := by decide +kernel
theorem dX4_become_59 : decode cX4_become 59 = .ok (.getfield 21, 3) := by decide +kernel
theorem dX4_become_62 : decode cX4_become 62 = .ok (.iconst 0, 1) := by decide +kernel
theorem dX4_become_63 : decode cX4_become 63 = .ok (.bipush 12, 2) := by decide +kernel
theorem dX4_become_65 : decode cX4_become 65 = .ok (.invokestatic 28, 3) := by decide +kernel
theorem dX4_become_68 : decode cX4_become 68 = .ok (.return_, 1) := by decide +kernel
theorem dX4_harm_0 : decode cX4_harm 0 = .ok (.aload_n 0, 1) := by decide +kernel
theorem dX4_harm_1 : decode cX4_harm 1 = .ok (.getfield 18, 3) := by decide +kernel
theorem dX4_harm_4 : decode cX4_harm 4 = .ok (.iload_n 1, 1) := by decide +kernel
theorem dX4_harm_5 : decode cX4_harm 5 = .ok (.iaload, 1) := by decide +kernel
theorem dX4_harm_6 : decode cX4_harm 6 = .ok (.iconst 1, 1) := by decide +kernel
theorem dX4_harm_7 : decode cX4_harm 7 = .ok (.if_icmp .ne 8, 3) := by decide +kernel
theorem dX4_harm_10 : decode cX4_harm 10 = .ok (.bipush 60, 2) := by decide +kernel
theorem dX4_harm_12 : decode cX4_harm 12 = .ok (.goto 26, 3) := by decide +kernel
theorem dX4_harm_15 : decode cX4_harm 15 = .ok (.bipush 60, 2) := by decide +kernel
theorem dX4_harm_17 : decode cX4_harm 17 = .ok (.aload_n 0, 1) := by decide +kernel
theorem dX4_harm_18 : decode cX4_harm 18 = .ok (.getfield 15, 3) := by decide +kernel
theorem dX4_harm_21 : decode cX4_harm 21 = .ok (.iload_n 1, 1) := by decide +kernel
theorem dX4_harm_22 : decode cX4_harm 22 = .ok (.iaload, 1) := by decide +kernel
theorem dX4_harm_23 : decode cX4_harm 23 = .ok (.invokestatic 34, 3) := by decide +kernel
theorem dX4_harm_26 : decode cX4_harm 26 = .ok (.iconst 2, 1) := by decide +kernel
theorem dX4_harm_27 : decode cX4_harm 27 = .ok (.aload_n 0, 1) := by decide +kernel
theorem dX4_harm_28 : decode cX4_harm 28 = .ok (.getfield 9, 3) := by decide +kernel
theorem dX4_harm_31 : decode cX4_harm 31 = .ok (.iload_n 1, 1) := by decide +kernel
theorem dX4_harm_32 : decode cX4_harm 32 = .ok (.iaload, 1) := by decide +kernel
theorem dX4_harm_33 : decode cX4_harm 33 = .ok (.imul, 1) := by decide +kernel
theorem dX4_harm_34 : decode cX4_harm 34 = .ok (.iadd, 1) := by decide +kernel
theorem dX4_harm_35 : decode cX4_harm 35 = .ok (.invokestatic 40, 3) := by decide +kernel
theorem dX4_harm_38 : decode cX4_harm 38 = .ok (.ireturn, 1) := by decide +kernel
theorem dX4_sing_0 : decode cX4_sing 0 = .ok (.aload_n 0, 1) := by decide +kernel
theorem dX4_sing_1 : decode cX4_sing 1 = .ok (.getfield 9, 3) := by decide +kernel
theorem dX4_sing_4 : decode cX4_sing 4 = .ok (.iload_n 1, 1) := by decide +kernel
theorem dX4_sing_5 : decode cX4_sing 5 = .ok (.bipush 30, 2) := by decide +kernel
theorem dX4_sing_7 : decode cX4_sing 7 = .ok (.aload_n 0, 1) := by decide +kernel
theorem dX4_sing_8 : decode cX4_sing 8 = .ok (.getfield 9, 3) := by decide +kernel
theorem dX4_sing_11 : decode cX4_sing 11 = .ok (.iload_n 1, 1) := by decide +kernel
theorem dX4_sing_12 : decode cX4_sing 12 = .ok (.iaload, 1) := by decide +kernel
theorem dX4_sing_13 : decode cX4_sing 13 = .ok (.iconst 1, 1) := by decide +kernel
theorem dX4_sing_14 : decode cX4_sing 14 = .ok (.iadd, 1) := by decide +kernel
theorem dX4_sing_15 : decode cX4_sing 15 = .ok (.invokestatic 40, 3) := by decide +kernel
theorem dX4_sing_18 : decode cX4_sing 18 = .ok (.iastore, 1) := by decide +kernel
theorem dX4_sing_19 : decode cX4_sing 19 = .ok (.aload_n 0, 1) := by decide +kernel
theorem dX4_sing_20 : decode cX4_sing 20 = .ok (.getfield 21, 3) := by decide +kernel
theorem dX4_sing_23 : decode cX4_sing 23 = .ok (.iload_n 1, 1) := by decide +kernel
theorem dX4_sing_24 : decode cX4_sing 24 = .ok (.iconst 1, 1) := by decide +kernel
theorem dX4_sing_25 : decode cX4_sing 25 = .ok (.iastore, 1) := by decide +kernel
theorem dX4_sing_26 : decode cX4_sing 26 = .ok (.return_, 1) := by decide +kernel
theorem dX4_rest_0 : decode cX4_rest 0 = .ok (.iconst 0, 1) := by decide +kernel
theorem dX4_rest_1 : decode cX4_rest 1 = .ok (.istore_n 2, 1) := by decide +kernel
theorem dX4_rest_2 : decode cX4_rest 2 = .ok (.iconst 0, 1) := by decide +kernel
theorem dX4_rest_3 : decode cX4_rest 3 = .ok (.istore_n 3, 1) := by decide +kernel
theorem dX4_rest_4 : decode cX4_rest 4 = .ok (.iload_n 3, 1) := by decide +kernel
theorem dX4_rest_5 : decode cX4_rest 5 = .ok (.bipush 12, 2) := by decide +kernel
theorem dX4_rest_7 : decode cX4_rest 7 = .ok (.if_icmp .ge 83, 3) := by decide +kernel
theorem dX4_rest_10 : decode cX4_rest 10 = .ok (.aload_n 0, 1) := by decide +kernel
theorem dX4_rest_11 : decode cX4_rest 11 = .ok (.getfield 9, 3) := by decide +kernel
theorem dX4_rest_14 : decode cX4_rest 14 = .ok (.iload_n 3, 1) := by decide +kernel
theorem dX4_rest_15 : decode cX4_rest 15 = .ok (.iaload, 1) := by decide +kernel
theorem dX4_rest_16 : decode cX4_rest 16 = .ok (.bipush 10, 2) := by decide +kernel
theorem dX4_rest_18 : decode cX4_rest 18 = .ok (.if_icmp .lt 31, 3) := by decide +kernel
theorem dX4_rest_21 : decode cX4_rest 21 = .ok (.aload_n 0, 1) := by decide +kernel
theorem dX4_rest_22 : decode cX4_rest 22 = .ok (.getfield 21, 3) := by decide +kernel
theorem dX4_rest_25 : decode cX4_rest 25 = .ok (.iload_n 3, 1) := by decide +kernel
theorem dX4_rest_26 : decode cX4_rest 26 = .ok (.iaload, 1) := by decide +kernel
theorem dX4_rest_27 : decode cX4_rest 27 = .ok (.ifCond .ne 22, 3) := by decide +kernel
theorem dX4_rest_30 : decode cX4_rest 30 = .ok (.aload_n 0, 1) := by decide +kernel
theorem dX4_rest_31 : decode cX4_rest 31 = .ok (.getfield 18, 3) := by decide +kernel
theorem dX4_rest_34 : decode cX4_rest 34 = .ok (.iload_n 3, 1) := by decide +kernel
theorem dX4_rest_35 : decode cX4_rest 35 = .ok (.iaload, 1) := by decide +kernel
theorem dX4_rest_36 : decode cX4_rest 36 = .ok (.ifCond .ne 13, 3) := by decide +kernel
theorem dX4_rest_39 : decode cX4_rest 39 = .ok (.aload_n 0, 1) := by decide +kernel
theorem dX4_rest_40 : decode cX4_rest 40 = .ok (.getfield 18, 3) := by decide +kernel
theorem dX4_rest_43 : decode cX4_rest 43 = .ok (.iload_n 3, 1) := by decide +kernel
theorem dX4_rest_44 : decode cX4_rest 44 = .ok (.iconst 1, 1) := by decide +kernel
theorem dX4_rest_45 : decode cX4_rest 45 = .ok (.iastore, 1) := by decide +kernel
theorem dX4_rest_46 : decode cX4_rest 46 = .ok (.iinc 2 1, 3) := by decide +kernel
theorem dX4_rest_49 : decode cX4_rest 49 = .ok (.aload_n 0, 1) := by decide +kernel
theorem dX4_rest_50 : decode cX4_rest 50 = .ok (.getfield 15, 3) := by decide +kernel
theorem dX4_rest_53 : decode cX4_rest 53 = .ok (.iload_n 3, 1) := by decide +kernel
theorem dX4_rest_54 : decode cX4_rest 54 = .ok (.aload_n 0, 1) := by decide +kernel
theorem dX4_rest_55 : decode cX4_rest 55 = .ok (.getfield 15, 3) := by decide +kernel
theorem dX4_rest_58 : decode cX4_rest 58 = .ok (.iload_n 3, 1) := by decide +kernel
theorem dX4_rest_59 : decode cX4_rest 59 = .ok (.iaload, 1) := by decide +kernel
theorem dX4_rest_60 : decode cX4_rest 60 = .ok (.iload_n 3, 1) := by decide +kernel
theorem dX4_rest_61 : decode cX4_rest 61 = .ok (.iconst 2, 1) := by decide +kernel
theorem dX4_rest_62 : decode cX4_rest 62 = .ok (.irem, 1) := by decide +kernel
theorem dX4_rest_63 : decode cX4_rest 63 = .ok (.ifCond .ne 7, 3) := by decide +kernel
theorem dX4_rest_66 : decode cX4_rest 66 = .ok (.iload_n 1, 1) := by decide +kernel
theorem dX4_rest_67 : decode cX4_rest 67 = .ok (.goto 5, 3) := by decide +kernel
theorem dX4_rest_70 : decode cX4_rest 70 = .ok (.iload_n 1, 1) := by decide +kernel
theorem dX4_rest_71 : decode cX4_rest 71 = .ok (.ineg, 1) := by decide +kernel
theorem dX4_rest_72 : decode cX4_rest 72 = .ok (.iadd, 1) := by decide +kernel
theorem dX4_rest_73 : decode cX4_rest 73 = .ok (.invokestatic 44, 3) := by decide +kernel
theorem dX4_rest_76 : decode cX4_rest 76 = .ok (.iastore, 1) := by decide +kernel
theorem dX4_rest_77 : decode cX4_rest 77 = .ok (.aload_n 0, 1) := by decide +kernel
theorem dX4_rest_78 : decode cX4_rest 78 = .ok (.getfield 21, 3) := by decide +kernel
theorem dX4_rest_81 : decode cX4_rest 81 = .ok (.iload_n 3, 1) := by decide +kernel
theorem dX4_rest_82 : decode cX4_rest 82 = .ok (.iconst 0, 1) := by decide +kernel
theorem dX4_rest_83 : decode cX4_rest 83 = .ok (.iastore, 1) := by decide +kernel
theorem dX4_rest_84 : decode cX4_rest 84 = .ok (.iinc 3 1, 3) := by decide +kernel
theorem dX4_rest_87 : decode cX4_rest 87 = .ok (.goto (-83), 3) := by decide +kernel
theorem dX4_rest_90 : decode cX4_rest 90 = .ok (.aload_n 0, 1) := by decide +kernel
theorem dX4_rest_91 : decode cX4_rest 91 = .ok (.dup, 1) := by decide +kernel
theorem dX4_rest_92 : decode cX4_rest 92 = .ok (.getfield 24, 3) := by decide +kernel
theorem dX4_rest_95 : decode cX4_rest 95 = .ok (.iconst 1, 1) := by decide +kernel
theorem dX4_rest_96 : decode cX4_rest 96 = .ok (.iadd, 1) := by decide +kernel
theorem dX4_rest_97 : decode cX4_rest 97 = .ok (.putfield 24, 3) := by decide +kernel
theorem dX4_rest_100 : decode cX4_rest 100 = .ok (.iload_n 2, 1) := by decide +kernel
theorem dX4_rest_101 : decode cX4_rest 101 = .ok (.ireturn, 1) := by decide +kernel
theorem dX4_crickets_0 : decode cX4_crickets 0 = .ok (.iconst 0, 1) := by decide +kernel
theorem dX4_crickets_1 : decode cX4_crickets 1 = .ok (.istore_n 1, 1) := by decide +kernel
theorem dX4_crickets_2 : decode cX4_crickets 2 = .ok (.aload_n 0, 1) := by decide +kernel
theorem dX4_crickets_3 : decode cX4_crickets 3 = .ok (.getfield 18, 3) := by decide +kernel
theorem dX4_crickets_6 : decode cX4_crickets 6 = .ok (.astore_n 2, 1) := by decide +kernel
theorem dX4_crickets_7 : decode cX4_crickets 7 = .ok (.aload_n 2, 1) := by decide +kernel
theorem dX4_crickets_8 : decode cX4_crickets 8 = .ok (.arraylength, 1) := by decide +kernel
theorem dX4_crickets_9 : decode cX4_crickets 9 = .ok (.istore_n 3, 1) := by decide +kernel
theorem dX4_crickets_10 : decode cX4_crickets 10 = .ok (.iconst 0, 1) := by decide +kernel
theorem dX4_crickets_11 : decode cX4_crickets 11 = .ok (.istore 4, 2) := by decide +kernel
theorem dX4_crickets_13 : decode cX4_crickets 13 = .ok (.iload 4, 2) := by decide +kernel
theorem dX4_crickets_15 : decode cX4_crickets 15 = .ok (.iload_n 3, 1) := by decide +kernel
theorem dX4_crickets_16 : decode cX4_crickets 16 = .ok (.if_icmp .ge 20, 3) := by decide +kernel
theorem dX4_crickets_19 : decode cX4_crickets 19 = .ok (.aload_n 2, 1) := by decide +kernel
theorem dX4_crickets_20 : decode cX4_crickets 20 = .ok (.iload 4, 2) := by decide +kernel
theorem dX4_crickets_22 : decode cX4_crickets 22 = .ok (.iaload, 1) := by decide +kernel
theorem dX4_crickets_23 : decode cX4_crickets 23 = .ok (.istore 5, 2) := by decide +kernel
theorem dX4_crickets_25 : decode cX4_crickets 25 = .ok (.iload_n 1, 1) := by decide +kernel
theorem dX4_crickets_26 : decode cX4_crickets 26 = .ok (.iload 5, 2) := by decide +kernel
theorem dX4_crickets_28 : decode cX4_crickets 28 = .ok (.iadd, 1) := by decide +kernel
theorem dX4_crickets_29 : decode cX4_crickets 29 = .ok (.istore_n 1, 1) := by decide +kernel
theorem dX4_crickets_30 : decode cX4_crickets 30 = .ok (.iinc 4 1, 3) := by decide +kernel
theorem dX4_crickets_33 : decode cX4_crickets 33 = .ok (.goto (-20), 3) := by decide +kernel
theorem dX4_crickets_36 : decode cX4_crickets 36 = .ok (.iload_n 1, 1) := by decide +kernel
theorem dX4_crickets_37 : decode cX4_crickets 37 = .ok (.ireturn, 1) := by decide +kernel
theorem dX4_allWorn_0 : decode cX4_allWorn 0 = .ok (.iconst 0, 1) := by decide +kernel
theorem dX4_allWorn_1 : decode cX4_allWorn 1 = .ok (.istore_n 1, 1) := by decide +kernel
theorem dX4_allWorn_2 : decode cX4_allWorn 2 = .ok (.aload_n 0, 1) := by decide +kernel
theorem dX4_allWorn_3 : decode cX4_allWorn 3 = .ok (.getfield 9, 3) := by decide +kernel
theorem dX4_allWorn_6 : decode cX4_allWorn 6 = .ok (.astore_n 2, 1) := by decide +kernel
theorem dX4_allWorn_7 : decode cX4_allWorn 7 = .ok (.aload_n 2, 1) := by decide +kernel
theorem dX4_allWorn_8 : decode cX4_allWorn 8 = .ok (.arraylength, 1) := by decide +kernel
theorem dX4_allWorn_9 : decode cX4_allWorn 9 = .ok (.istore_n 3, 1) := by decide +kernel
theorem dX4_allWorn_10 : decode cX4_allWorn 10 = .ok (.iconst 0, 1) := by decide +kernel
theorem dX4_allWorn_11 : decode cX4_allWorn 11 = .ok (.istore 4, 2) := by decide +kernel
theorem dX4_allWorn_13 : decode cX4_allWorn 13 = .ok (.iload 4, 2) := by decide +kernel
theorem dX4_allWorn_15 : decode cX4_allWorn 15 = .ok (.iload_n 3, 1) := by decide +kernel
theorem dX4_allWorn_16 : decode cX4_allWorn 16 = .ok (.if_icmp .ge 20, 3) := by decide +kernel
theorem dX4_allWorn_19 : decode cX4_allWorn 19 = .ok (.aload_n 2, 1) := by decide +kernel
theorem dX4_allWorn_20 : decode cX4_allWorn 20 = .ok (.iload 4, 2) := by decide +kernel
theorem dX4_allWorn_22 : decode cX4_allWorn 22 = .ok (.iaload, 1) := by decide +kernel
theorem dX4_allWorn_23 : decode cX4_allWorn 23 = .ok (.istore 5, 2) := by decide +kernel
theorem dX4_allWorn_25 : decode cX4_allWorn 25 = .ok (.iload_n 1, 1) := by decide +kernel
theorem dX4_allWorn_26 : decode cX4_allWorn 26 = .ok (.iload 5, 2) := by decide +kernel
theorem dX4_allWorn_28 : decode cX4_allWorn 28 = .ok (.iadd, 1) := by decide +kernel
theorem dX4_allWorn_29 : decode cX4_allWorn 29 = .ok (.istore_n 1, 1) := by decide +kernel
theorem dX4_allWorn_30 : decode cX4_allWorn 30 = .ok (.iinc 4 1, 3) := by decide +kernel
theorem dX4_allWorn_33 : decode cX4_allWorn 33 = .ok (.goto (-20), 3) := by decide +kernel
theorem dX4_allWorn_36 : decode cX4_allWorn 36 = .ok (.iload_n 1, 1) := by decide +kernel
theorem dX4_allWorn_37 : decode cX4_allWorn 37 = .ok (.ireturn, 1) := by decide +kernel
theorem dX4_allOff_0 : decode cX4_allOff 0 = .ok (.iconst 0, 1) := by decide +kernel
theorem dX4_allOff_1 : decode cX4_allOff 1 = .ok (.istore_n 1, 1) := by decide +kernel
theorem dX4_allOff_2 : decode cX4_allOff 2 = .ok (.aload_n 0, 1) := by decide +kernel
theorem dX4_allOff_3 : decode cX4_allOff 3 = .ok (.getfield 15, 3) := by decide +kernel
theorem dX4_allOff_6 : decode cX4_allOff 6 = .ok (.astore_n 2, 1) := by decide +kernel
theorem dX4_allOff_7 : decode cX4_allOff 7 = .ok (.aload_n 2, 1) := by decide +kernel
theorem dX4_allOff_8 : decode cX4_allOff 8 = .ok (.arraylength, 1) := by decide +kernel
theorem dX4_allOff_9 : decode cX4_allOff 9 = .ok (.istore_n 3, 1) := by decide +kernel
theorem dX4_allOff_10 : decode cX4_allOff 10 = .ok (.iconst 0, 1) := by decide +kernel
theorem dX4_allOff_11 : decode cX4_allOff 11 = .ok (.istore 4, 2) := by decide +kernel
theorem dX4_allOff_13 : decode cX4_allOff 13 = .ok (.iload 4, 2) := by decide +kernel
theorem dX4_allOff_15 : decode cX4_allOff 15 = .ok (.iload_n 3, 1) := by decide +kernel
theorem dX4_allOff_16 : decode cX4_allOff 16 = .ok (.if_icmp .ge 23, 3) := by decide +kernel
theorem dX4_allOff_19 : decode cX4_allOff 19 = .ok (.aload_n 2, 1) := by decide +kernel
theorem dX4_allOff_20 : decode cX4_allOff 20 = .ok (.iload 4, 2) := by decide +kernel
theorem dX4_allOff_22 : decode cX4_allOff 22 = .ok (.iaload, 1) := by decide +kernel
theorem dX4_allOff_23 : decode cX4_allOff 23 = .ok (.istore 5, 2) := by decide +kernel
theorem dX4_allOff_25 : decode cX4_allOff 25 = .ok (.iload_n 1, 1) := by decide +kernel
theorem dX4_allOff_26 : decode cX4_allOff 26 = .ok (.iload 5, 2) := by decide +kernel
theorem dX4_allOff_28 : decode cX4_allOff 28 = .ok (.invokestatic 34, 3) := by decide +kernel
theorem dX4_allOff_31 : decode cX4_allOff 31 = .ok (.iadd, 1) := by decide +kernel
theorem dX4_allOff_32 : decode cX4_allOff 32 = .ok (.istore_n 1, 1) := by decide +kernel
theorem dX4_allOff_33 : decode cX4_allOff 33 = .ok (.iinc 4 1, 3) := by decide +kernel
theorem dX4_allOff_36 : decode cX4_allOff 36 = .ok (.goto (-23), 3) := by decide +kernel
theorem dX4_allOff_39 : decode cX4_allOff 39 = .ok (.iload_n 1, 1) := by decide +kernel
theorem dX4_allOff_40 : decode cX4_allOff 40 = .ok (.ireturn, 1) := by decide +kernel
theorem dX5_init_0 : decode cX5_init 0 = .ok (.aload_n 0, 1) := by decide +kernel
theorem dX5_init_1 : decode cX5_init 1 = .ok (.invokespecial 1, 3) := by decide +kernel
theorem dX5_init_4 : decode cX5_init 4 = .ok (.aload_n 0, 1) := by decide +kernel
theorem dX5_init_5 : decode cX5_init 5 = .ok (.bipush 6, 2) := by decide +kernel
theorem dX5_init_7 : decode cX5_init 7 = .ok (.newarray .int, 2) := by decide +kernel
theorem dX5_init_9 : decode cX5_init 9 = .ok (.putfield 9, 3) := by decide +kernel
theorem dX5_init_12 : decode cX5_init 12 = .ok (.aload_n 0, 1) := by decide +kernel
theorem dX5_init_13 : decode cX5_init 13 = .ok (.bipush 96, 2) := by decide +kernel
theorem dX5_init_15 : decode cX5_init 15 = .ok (.newarray .int, 2) := by decide +kernel
theorem dX5_init_17 : decode cX5_init 17 = .ok (.putfield 13, 3) := by decide +kernel
theorem dX5_init_20 : decode cX5_init 20 = .ok (.aload_n 0, 1) := by decide +kernel
theorem dX5_init_21 : decode cX5_init 21 = .ok (.bipush 8, 2) := by decide +kernel
theorem dX5_init_23 : decode cX5_init 23 = .ok (.newarray .int, 2) := by decide +kernel
theorem dX5_init_25 : decode cX5_init 25 = .ok (.putfield 16, 3) := by decide +kernel
theorem dX5_init_28 : decode cX5_init 28 = .ok (.aload_n 0, 1) := by decide +kernel
theorem dX5_init_29 : decode cX5_init 29 = .ok (.bipush 8, 2) := by decide +kernel
theorem dX5_init_31 : decode cX5_init 31 = .ok (.newarray .int, 2) := by decide +kernel
theorem dX5_init_33 : decode cX5_init 33 = .ok (.putfield 19, 3) := by decide +kernel
theorem dX5_init_36 : decode cX5_init 36 = .ok (.aload_n 0, 1) := by decide +kernel
theorem dX5_init_37 : decode cX5_init 37 = .ok (.bipush 8, 2) := by decide +kernel
theorem dX5_init_39 : decode cX5_init 39 = .ok (.newarray .int, 2) := by decide +kernel
theorem dX5_init_41 : decode cX5_init 41 = .ok (.putfield 22, 3) := by decide +kernel
theorem dX5_init_44 : decode cX5_init 44 = .ok (.aload_n 0, 1) := by decide +kernel
theorem dX5_init_45 : decode cX5_init 45 = .ok (.bipush 48, 2) := by decide +kernel
theorem dX5_init_47 : decode cX5_init 47 = .ok (.newarray .int, 2) := by decide +kernel
theorem dX5_init_49 : decode cX5_init 49 = .ok (.putfield 25, 3) := by decide +kernel
theorem dX5_init_52 : decode cX5_init 52 = .ok (.aload_n 0, 1) := by decide +kernel
theorem dX5_init_53 : decode cX5_init 53 = .ok (.bipush 7, 2) := by decide +kernel
theorem dX5_init_55 : decode cX5_init 55 = .ok (.newarray .int, 2) := by decide +kernel
theorem dX5_init_57 : decode cX5_init 57 = .ok (.putfield 28, 3) := by decide +kernel
theorem dX5_init_60 : decode cX5_init 60 = .ok (.aload_n 0, 1) := by decide +kernel
theorem dX5_init_61 : decode cX5_init 61 = .ok (.bipush 20, 2) := by decide +kernel
theorem dX5_init_63 : decode cX5_init 63 = .ok (.putfield 31, 3) := by decide +kernel
theorem dX5_init_66 : decode cX5_init 66 = .ok (.aload_n 0, 1) := by decide +kernel
theorem dX5_init_67 : decode cX5_init 67 = .ok (.new 35, 3) := by decide +kernel
theorem dX5_init_70 : decode cX5_init 70 = .ok (.dup, 1) := by decide +kernel
theorem dX5_init_71 : decode cX5_init 71 = .ok (.invokespecial 37, 3) := by decide +kernel
theorem dX5_init_74 : decode cX5_init 74 = .ok (.putfield 38, 3) := by decide +kernel
theorem dX5_init_77 : decode cX5_init 77 = .ok (.aload_n 0, 1) := by decide +kernel
theorem dX5_init_78 : decode cX5_init 78 = .ok (.new 35, 3) := by decide +kernel
theorem dX5_init_81 : decode cX5_init 81 = .ok (.dup, 1) := by decide +kernel
theorem dX5_init_82 : decode cX5_init 82 = .ok (.invokespecial 37, 3) := by decide +kernel
theorem dX5_init_85 : decode cX5_init 85 = .ok (.putfield 42, 3) := by decide +kernel
theorem dX5_init_88 : decode cX5_init 88 = .ok (.return_, 1) := by decide +kernel
theorem dX5_thrown_0 : decode cX5_thrown 0 = .ok (.aload_n 0, 1) := by decide +kernel
theorem dX5_thrown_1 : decode cX5_thrown 1 = .ok (.getfield 45, 3) := by decide +kernel
theorem dX5_thrown_4 : decode cX5_thrown 4 = .ok (.ireturn, 1) := by decide +kernel
theorem dX5_no_0 : decode cX5_no 0 = .ok (.aload_n 0, 1) := by decide +kernel
theorem dX5_no_1 : decode cX5_no 1 = .ok (.iload_n 1, 1) := by decide +kernel
theorem dX5_no_2 : decode cX5_no 2 = .ok (.putfield 45, 3) := by decide +kernel
theorem dX5_no_5 : decode cX5_no 5 = .ok (.iconst 0, 1) := by decide +kernel
theorem dX5_no_6 : decode cX5_no 6 = .ok (.ireturn, 1) := by decide +kernel
theorem dX5_held_0 : decode cX5_held 0 = .ok (.bipush (-60), 2) := by decide +kernel
theorem dX5_held_2 : decode cX5_held 2 = .ok (.bipush 60, 2) := by decide +kernel
theorem dX5_held_4 : decode cX5_held 4 = .ok (.iload_n 0, 1) := by decide +kernel
theorem dX5_held_5 : decode cX5_held 5 = .ok (.invokestatic 48, 3) := by decide +kernel
theorem dX5_held_8 : decode cX5_held 8 = .ok (.invokestatic 54, 3) := by decide +kernel
theorem dX5_held_11 : decode cX5_held 11 = .ok (.ireturn, 1) := by decide +kernel
theorem dX5_isIn_0 : decode cX5_isIn 0 = .ok (.iload_n 0, 1) := by decide +kernel
theorem dX5_isIn_1 : decode cX5_isIn 1 = .ok (.iload_n 1, 1) := by decide +kernel
theorem dX5_isIn_2 : decode cX5_isIn 2 = .ok (.if_icmp .lt 12, 3) := by decide +kernel
theorem dX5_isIn_5 : decode cX5_isIn 5 = .ok (.iload_n 0, 1) := by decide +kernel
theorem dX5_isIn_6 : decode cX5_isIn 6 = .ok (.iload_n 2, 1) := by decide +kernel
theorem dX5_isIn_7 : decode cX5_isIn 7 = .ok (.if_icmp .gt 7, 3) := by decide +kernel
theorem dX5_isIn_10 : decode cX5_isIn 10 = .ok (.iconst 1, 1) := by decide +kernel
theorem dX5_isIn_11 : decode cX5_isIn 11 = .ok (.goto 4, 3) := by decide +kernel
theorem dX5_isIn_14 : decode cX5_isIn 14 = .ok (.iconst 0, 1) := by decide +kernel
theorem dX5_isIn_15 : decode cX5_isIn 15 = .ok (.ireturn, 1) := by decide +kernel
theorem dX5_isTune_0 : decode cX5_isTune 0 = .ok (.iload_n 1, 1) := by decide +kernel
theorem dX5_isTune_1 : decode cX5_isTune 1 = .ok (.iconst 0, 1) := by decide +kernel
theorem dX5_isTune_2 : decode cX5_isTune 2 = .ok (.aload_n 0, 1) := by decide +kernel
theorem dX5_isTune_3 : decode cX5_isTune 3 = .ok (.getfield 57, 3) := by decide +kernel
theorem dX5_isTune_6 : decode cX5_isTune 6 = .ok (.iconst 1, 1) := by decide +kernel
theorem dX5_isTune_7 : decode cX5_isTune 7 = .ok (.isub, 1) := by decide +kernel
theorem dX5_isTune_8 : decode cX5_isTune 8 = .ok (.invokestatic 60, 3) := by decide +kernel
theorem dX5_isTune_11 : decode cX5_isTune 11 = .ok (.ireturn, 1) := by decide +kernel
theorem dX5_isStreet_0 : decode cX5_isStreet 0 = .ok (.iload_n 1, 1) := by decide +kernel
theorem dX5_isStreet_1 : decode cX5_isStreet 1 = .ok (.iconst 0, 1) := by decide +kernel
theorem dX5_isStreet_2 : decode cX5_isStreet 2 = .ok (.aload_n 0, 1) := by decide +kernel
theorem dX5_isStreet_3 : decode cX5_isStreet 3 = .ok (.getfield 64, 3) := by decide +kernel
theorem dX5_isStreet_6 : decode cX5_isStreet 6 = .ok (.iconst 1, 1) := by decide +kernel
theorem dX5_isStreet_7 : decode cX5_isStreet 7 = .ok (.isub, 1) := by decide +kernel
theorem dX5_isStreet_8 : decode cX5_isStreet 8 = .ok (.invokestatic 60, 3) := by decide +kernel
theorem dX5_isStreet_11 : decode cX5_isStreet 11 = .ok (.ireturn, 1) := by decide +kernel
theorem dX5_isPipe_0 : decode cX5_isPipe 0 = .ok (.iload_n 0, 1) := by decide +kernel
theorem dX5_isPipe_1 : decode cX5_isPipe 1 = .ok (.iconst 0, 1) := by decide +kernel
theorem dX5_isPipe_2 : decode cX5_isPipe 2 = .ok (.bipush 11, 2) := by decide +kernel
theorem dX5_isPipe_4 : decode cX5_isPipe 4 = .ok (.invokestatic 60, 3) := by decide +kernel
theorem dX5_isPipe_7 : decode cX5_isPipe 7 = .ok (.ireturn, 1) := by decide +kernel
theorem dX5_isDays_0 : decode cX5_isDays 0 = .ok (.iload_n 0, 1) := by decide +kernel
theorem dX5_isDays_1 : decode cX5_isDays 1 = .ok (.iconst 0, 1) := by decide +kernel
theorem dX5_isDays_2 : decode cX5_isDays 2 = .ok (.bipush 127, 2) := by decide +kernel
theorem dX5_isDays_4 : decode cX5_isDays 4 = .ok (.invokestatic 60, 3) := by decide +kernel
theorem dX5_isDays_7 : decode cX5_isDays 7 = .ok (.ireturn, 1) := by decide +kernel
theorem dX5_barrel_0 : decode cX5_barrel 0 = .ok (.aload_n 0, 1) := by decide +kernel
theorem dX5_barrel_1 : decode cX5_barrel 1 = .ok (.iconst 0, 1) := by decide +kernel
theorem dX5_barrel_2 : decode cX5_barrel 2 = .ok (.putfield 45, 3) := by decide +kernel
theorem dX5_barrel_5 : decode cX5_barrel 5 = .ok (.aload_n 0, 1) := by decide +kernel
theorem dX5_barrel_6 : decode cX5_barrel 6 = .ok (.getfield 57, 3) := by decide +kernel
theorem dX5_barrel_9 : decode cX5_barrel 9 = .ok (.bipush 6, 2) := by decide +kernel
theorem dX5_barrel_11 : decode cX5_barrel 11 = .ok (.if_icmp .ne 9, 3) := by decide +kernel
theorem dX5_barrel_14 : decode cX5_barrel 14 = .ok (.aload_n 0, 1) := by decide +kernel
theorem dX5_barrel_15 : decode cX5_barrel 15 = .ok (.iconst 1, 1) := by decide +kernel
theorem dX5_barrel_16 : decode cX5_barrel 16 = .ok (.invokevirtual 67, 3) := by decide +kernel
theorem dX5_barrel_19 : decode cX5_barrel 19 = .ok (.ireturn, 1) := by decide +kernel
theorem dX5_barrel_20 : decode cX5_barrel 20 = .ok (.aload_n 0, 1) := by decide +kernel
theorem dX5_barrel_21 : decode cX5_barrel 21 = .ok (.dup, 1) := by decide +kernel
theorem dX5_barrel_22 : decode cX5_barrel 22 = .ok (.getfield 57, 3) := by decide +kernel
theorem dX5_barrel_25 : decode cX5_barrel 25 = .ok (.iconst 1, 1) := by decide +kernel
theorem dX5_barrel_26 : decode cX5_barrel 26 = .ok (.iadd, 1) := by decide +kernel
theorem dX5_barrel_27 : decode cX5_barrel 27 = .ok (.putfield 57, 3) := by decide +kernel
theorem dX5_barrel_30 : decode cX5_barrel 30 = .ok (.aload_n 0, 1) := by decide +kernel
theorem dX5_barrel_31 : decode cX5_barrel 31 = .ok (.getfield 57, 3) := by decide +kernel
theorem dX5_barrel_34 : decode cX5_barrel 34 = .ok (.iconst 1, 1) := by decide +kernel
theorem dX5_barrel_35 : decode cX5_barrel 35 = .ok (.isub, 1) := by decide +kernel
theorem dX5_barrel_36 : decode cX5_barrel 36 = .ok (.ireturn, 1) := by decide +kernel
theorem dX5_pin_0 : decode cX5_pin 0 = .ok (.aload_n 0, 1) := by decide +kernel
theorem dX5_pin_1 : decode cX5_pin 1 = .ok (.iconst 0, 1) := by decide +kernel
theorem dX5_pin_2 : decode cX5_pin 2 = .ok (.putfield 45, 3) := by decide +kernel
theorem dX5_pin_5 : decode cX5_pin 5 = .ok (.aload_n 0, 1) := by decide +kernel
theorem dX5_pin_6 : decode cX5_pin 6 = .ok (.iload_n 1, 1) := by decide +kernel
theorem dX5_pin_7 : decode cX5_pin 7 = .ok (.invokevirtual 71, 3) := by decide +kernel
theorem dX5_pin_10 : decode cX5_pin 10 = .ok (.ifCond .eq 10, 3) := by decide +kernel
theorem dX5_pin_13 : decode cX5_pin 13 = .ok (.iload_n 2, 1) := by decide +kernel
theorem dX5_pin_14 : decode cX5_pin 14 = .ok (.invokestatic 75, 3) := by decide +kernel
theorem dX5_pin_17 : decode cX5_pin 17 = .ok (.ifCond .ne 9, 3) := by decide +kernel
theorem dX5_pin_20 : decode cX5_pin 20 = .ok (.aload_n 0, 1) := by decide +kernel
theorem dX5_pin_21 : decode cX5_pin 21 = .ok (.iconst 1, 1) := by decide +kernel
theorem dX5_pin_22 : decode cX5_pin 22 = .ok (.invokevirtual 67, 3) := by decide +kernel
theorem dX5_pin_25 : decode cX5_pin 25 = .ok (.ireturn, 1) := by decide +kernel
theorem dX5_pin_26 : decode cX5_pin 26 = .ok (.aload_n 0, 1) := by decide +kernel
theorem dX5_pin_27 : decode cX5_pin 27 = .ok (.getfield 9, 3) := by decide +kernel
theorem dX5_pin_30 : decode cX5_pin 30 = .ok (.iload_n 1, 1) := by decide +kernel
theorem dX5_pin_31 : decode cX5_pin 31 = .ok (.iaload, 1) := by decide +kernel
theorem dX5_pin_32 : decode cX5_pin 32 = .ok (.bipush 16, 2) := by decide +kernel
theorem dX5_pin_34 : decode cX5_pin 34 = .ok (.if_icmp .ne 9, 3) := by decide +kernel
theorem dX5_pin_37 : decode cX5_pin 37 = .ok (.aload_n 0, 1) := by decide +kernel
theorem dX5_pin_38 : decode cX5_pin 38 = .ok (.iconst 2, 1) := by decide +kernel
theorem dX5_pin_39 : decode cX5_pin 39 = .ok (.invokevirtual 67, 3) := by decide +kernel
theorem dX5_pin_42 : decode cX5_pin 42 = .ok (.ireturn, 1) := by decide +kernel
theorem dX5_pin_43 : decode cX5_pin 43 = .ok (.aload_n 0, 1) := by decide +kernel
theorem dX5_pin_44 : decode cX5_pin 44 = .ok (.getfield 13, 3) := by decide +kernel
theorem dX5_pin_47 : decode cX5_pin 47 = .ok (.bipush 16, 2) := by decide +kernel
theorem dX5_pin_49 : decode cX5_pin 49 = .ok (.iload_n 1, 1) := by decide +kernel
theorem dX5_pin_50 : decode cX5_pin 50 = .ok (.imul, 1) := by decide +kernel
theorem dX5_pin_51 : decode cX5_pin 51 = .ok (.aload_n 0, 1) := by decide +kernel
theorem dX5_pin_52 : decode cX5_pin 52 = .ok (.getfield 9, 3) := by decide +kernel
theorem dX5_pin_55 : decode cX5_pin 55 = .ok (.iload_n 1, 1) := by decide +kernel
theorem dX5_pin_56 : decode cX5_pin 56 = .ok (.iaload, 1) := by decide +kernel
theorem dX5_pin_57 : decode cX5_pin 57 = .ok (.iadd, 1) := by decide +kernel
theorem dX5_pin_58 : decode cX5_pin 58 = .ok (.iload_n 2, 1) := by decide +kernel
theorem dX5_pin_59 : decode cX5_pin 59 = .ok (.iastore, 1) := by decide +kernel
theorem dX5_pin_60 : decode cX5_pin 60 = .ok (.aload_n 0, 1) := by decide +kernel
theorem dX5_pin_61 : decode cX5_pin 61 = .ok (.getfield 9, 3) := by decide +kernel
theorem dX5_pin_64 : decode cX5_pin 64 = .ok (.iload_n 1, 1) := by decide +kernel
theorem dX5_pin_65 : decode cX5_pin 65 = .ok (.dup2, 1) := by decide +kernel
theorem dX5_pin_66 : decode cX5_pin 66 = .ok (.iaload, 1) := by decide +kernel
theorem dX5_pin_67 : decode cX5_pin 67 = .ok (.iconst 1, 1) := by decide +kernel
theorem dX5_pin_68 : decode cX5_pin 68 = .ok (.iadd, 1) := by decide +kernel
theorem dX5_pin_69 : decode cX5_pin 69 = .ok (.iastore, 1) := by decide +kernel
theorem dX5_pin_70 : decode cX5_pin 70 = .ok (.aload_n 0, 1) := by decide +kernel
theorem dX5_pin_71 : decode cX5_pin 71 = .ok (.getfield 9, 3) := by decide +kernel
theorem dX5_pin_74 : decode cX5_pin 74 = .ok (.iload_n 1, 1) := by decide +kernel
theorem dX5_pin_75 : decode cX5_pin 75 = .ok (.iaload, 1) := by decide +kernel
theorem dX5_pin_76 : decode cX5_pin 76 = .ok (.ireturn, 1) := by decide +kernel
theorem dX5_note_0 : decode cX5_note 0 = .ok (.aload_n 0, 1) := by decide +kernel
theorem dX5_note_1 : decode cX5_note 1 = .ok (.iconst 0, 1) := by decide +kernel
theorem dX5_note_2 : decode cX5_note 2 = .ok (.putfield 45, 3) := by decide +kernel
theorem dX5_note_5 : decode cX5_note 5 = .ok (.aload_n 0, 1) := by decide +kernel
theorem dX5_note_6 : decode cX5_note 6 = .ok (.iload_n 1, 1) := by decide +kernel
theorem dX5_note_7 : decode cX5_note 7 = .ok (.invokevirtual 71, 3) := by decide +kernel
theorem dX5_note_10 : decode cX5_note 10 = .ok (.ifCond .eq 33, 3) := by decide +kernel
theorem dX5_note_13 : decode cX5_note 13 = .ok (.iload_n 2, 1) := by decide +kernel
theorem dX5_note_14 : decode cX5_note 14 = .ok (.iconst 0, 1) := by decide +kernel
theorem dX5_note_15 : decode cX5_note 15 = .ok (.aload_n 0, 1) := by decide +kernel
theorem dX5_note_16 : decode cX5_note 16 = .ok (.getfield 9, 3) := by decide +kernel
theorem dX5_note_19 : decode cX5_note 19 = .ok (.iload_n 1, 1) := by decide +kernel
theorem dX5_note_20 : decode cX5_note 20 = .ok (.iaload, 1) := by decide +kernel
theorem dX5_note_21 : decode cX5_note 21 = .ok (.iconst 1, 1) := by decide +kernel
theorem dX5_note_22 : decode cX5_note 22 = .ok (.isub, 1) := by decide +kernel
theorem dX5_note_23 : decode cX5_note 23 = .ok (.invokestatic 60, 3) := by decide +kernel
theorem dX5_note_26 : decode cX5_note 26 = .ok (.ifCond .eq 17, 3) := by decide +kernel
theorem dX5_note_29 : decode cX5_note 29 = .ok (.aload_n 0, 1) := by decide +kernel
theorem dX5_note_30 : decode cX5_note 30 = .ok (.getfield 13, 3) := by decide +kernel
theorem dX5_note_33 : decode cX5_note 33 = .ok (.bipush 16, 2) := by decide +kernel
theorem dX5_note_35 : decode cX5_note 35 = .ok (.iload_n 1, 1) := by decide +kernel
theorem dX5_note_36 : decode cX5_note 36 = .ok (.imul, 1) := by decide +kernel
theorem dX5_note_37 : decode cX5_note 37 = .ok (.iload_n 2, 1) := by decide +kernel
theorem dX5_note_38 : decode cX5_note 38 = .ok (.iadd, 1) := by decide +kernel
theorem dX5_note_39 : decode cX5_note 39 = .ok (.iaload, 1) := by decide +kernel
theorem dX5_note_40 : decode cX5_note 40 = .ok (.goto 8, 3) := by decide +kernel
theorem dX5_note_43 : decode cX5_note 43 = .ok (.aload_n 0, 1) := by decide +kernel
theorem dX5_note_44 : decode cX5_note 44 = .ok (.iconst 1, 1) := by decide +kernel
theorem dX5_note_45 : decode cX5_note 45 = .ok (.invokevirtual 67, 3) := by decide +kernel
theorem dX5_note_48 : decode cX5_note 48 = .ok (.ireturn, 1) := by decide +kernel
theorem dX5_street_0 : decode cX5_street 0 = .ok (.aload_n 0, 1) := by decide +kernel
theorem dX5_street_1 : decode cX5_street 1 = .ok (.iconst 0, 1) := by decide +kernel
theorem dX5_street_2 : decode cX5_street 2 = .ok (.putfield 45, 3) := by decide +kernel
theorem dX5_street_5 : decode cX5_street 5 = .ok (.iload_n 1, 1) := by decide +kernel
theorem dX5_street_6 : decode cX5_street 6 = .ok (.iconst 0, 1) := by decide +kernel
theorem dX5_street_7 : decode cX5_street 7 = .ok (.bipush 90, 2) := by decide +kernel
theorem dX5_street_9 : decode cX5_street 9 = .ok (.invokestatic 60, 3) := by decide +kernel
theorem dX5_street_12 : decode cX5_street 12 = .ok (.ifCond .eq 10, 3) := by decide +kernel
theorem dX5_street_15 : decode cX5_street 15 = .ok (.iload_n 2, 1) := by decide +kernel
theorem dX5_street_16 : decode cX5_street 16 = .ok (.invokestatic 78, 3) := by decide +kernel
theorem dX5_street_19 : decode cX5_street 19 = .ok (.ifCond .ne 9, 3) := by decide +kernel
theorem dX5_street_22 : decode cX5_street 22 = .ok (.aload_n 0, 1) := by decide +kernel
theorem dX5_street_23 : decode cX5_street 23 = .ok (.iconst 1, 1) := by decide +kernel
theorem dX5_street_24 : decode cX5_street 24 = .ok (.invokevirtual 67, 3) := by decide +kernel
theorem dX5_street_27 : decode cX5_street 27 = .ok (.ireturn, 1) := by decide +kernel
theorem dX5_street_28 : decode cX5_street 28 = .ok (.aload_n 0, 1) := by decide +kernel
theorem dX5_street_29 : decode cX5_street 29 = .ok (.getfield 64, 3) := by decide +kernel
theorem dX5_street_32 : decode cX5_street 32 = .ok (.bipush 8, 2) := by decide +kernel
theorem dX5_street_34 : decode cX5_street 34 = .ok (.if_icmp .ne 9, 3) := by decide +kernel
theorem dX5_street_37 : decode cX5_street 37 = .ok (.aload_n 0, 1) := by decide +kernel
theorem dX5_street_38 : decode cX5_street 38 = .ok (.iconst 2, 1) := by decide +kernel
theorem dX5_street_39 : decode cX5_street 39 = .ok (.invokevirtual 67, 3) := by decide +kernel
theorem dX5_street_42 : decode cX5_street 42 = .ok (.ireturn, 1) := by decide +kernel
theorem dX5_street_43 : decode cX5_street 43 = .ok (.aload_n 0, 1) := by decide +kernel
theorem dX5_street_44 : decode cX5_street 44 = .ok (.getfield 16, 3) := by decide +kernel
theorem dX5_street_47 : decode cX5_street 47 = .ok (.aload_n 0, 1) := by decide +kernel
theorem dX5_street_48 : decode cX5_street 48 = .ok (.getfield 64, 3) := by decide +kernel
theorem dX5_street_51 : decode cX5_street 51 = .ok (.iload_n 1, 1) := by decide +kernel
theorem dX5_street_52 : decode cX5_street 52 = .ok (.iastore, 1) := by decide +kernel
theorem dX5_street_53 : decode cX5_street 53 = .ok (.aload_n 0, 1) := by decide +kernel
theorem dX5_street_54 : decode cX5_street 54 = .ok (.getfield 19, 3) := by decide +kernel
theorem dX5_street_57 : decode cX5_street 57 = .ok (.aload_n 0, 1) := by decide +kernel
theorem dX5_street_58 : decode cX5_street 58 = .ok (.getfield 64, 3) := by decide +kernel
theorem dX5_street_61 : decode cX5_street 61 = .ok (.iload_n 2, 1) := by decide +kernel
theorem dX5_street_62 : decode cX5_street 62 = .ok (.iastore, 1) := by decide +kernel
theorem dX5_street_63 : decode cX5_street 63 = .ok (.aload_n 0, 1) := by decide +kernel
theorem dX5_street_64 : decode cX5_street 64 = .ok (.dup, 1) := by decide +kernel
theorem dX5_street_65 : decode cX5_street 65 = .ok (.getfield 64, 3) := by decide +kernel
theorem dX5_street_68 : decode cX5_street 68 = .ok (.iconst 1, 1) := by decide +kernel
theorem dX5_street_69 : decode cX5_street 69 = .ok (.iadd, 1) := by decide +kernel
theorem dX5_street_70 : decode cX5_street 70 = .ok (.putfield 64, 3) := by decide +kernel
theorem dX5_street_73 : decode cX5_street 73 = .ok (.aload_n 0, 1) := by decide +kernel
theorem dX5_street_74 : decode cX5_street 74 = .ok (.getfield 64, 3) := by decide +kernel
theorem dX5_street_77 : decode cX5_street 77 = .ok (.iconst 1, 1) := by decide +kernel
theorem dX5_street_78 : decode cX5_street 78 = .ok (.isub, 1) := by decide +kernel
theorem dX5_street_79 : decode cX5_street 79 = .ok (.ireturn, 1) := by decide +kernel
theorem dX5_permit_0 : decode cX5_permit 0 = .ok (.aload_n 0, 1) := by decide +kernel
theorem dX5_permit_1 : decode cX5_permit 1 = .ok (.iconst 0, 1) := by decide +kernel
theorem dX5_permit_2 : decode cX5_permit 2 = .ok (.putfield 45, 3) := by decide +kernel
theorem dX5_permit_5 : decode cX5_permit 5 = .ok (.aload_n 0, 1) := by decide +kernel
theorem dX5_permit_6 : decode cX5_permit 6 = .ok (.iload_n 1, 1) := by decide +kernel
theorem dX5_permit_7 : decode cX5_permit 7 = .ok (.invokevirtual 81, 3) := by decide +kernel
theorem dX5_permit_10 : decode cX5_permit 10 = .ok (.ifCond .ne 9, 3) := by decide +kernel
theorem dX5_permit_13 : decode cX5_permit 13 = .ok (.aload_n 0, 1) := by decide +kernel
theorem dX5_permit_14 : decode cX5_permit 14 = .ok (.iconst 1, 1) := by decide +kernel
theorem dX5_permit_15 : decode cX5_permit 15 = .ok (.invokevirtual 67, 3) := by decide +kernel
theorem dX5_permit_18 : decode cX5_permit 18 = .ok (.ireturn, 1) := by decide +kernel
theorem dX5_permit_19 : decode cX5_permit 19 = .ok (.iload_n 2, 1) := by decide +kernel
theorem dX5_permit_20 : decode cX5_permit 20 = .ok (.invokestatic 78, 3) := by decide +kernel
theorem dX5_permit_23 : decode cX5_permit 23 = .ok (.ifCond .ne 9, 3) := by decide +kernel
theorem dX5_permit_26 : decode cX5_permit 26 = .ok (.aload_n 0, 1) := by decide +kernel
theorem dX5_permit_27 : decode cX5_permit 27 = .ok (.iconst 2, 1) := by decide +kernel
theorem dX5_permit_28 : decode cX5_permit 28 = .ok (.invokevirtual 67, 3) := by decide +kernel
theorem dX5_permit_31 : decode cX5_permit 31 = .ok (.ireturn, 1) := by decide +kernel
theorem dX5_permit_32 : decode cX5_permit 32 = .ok (.aload_n 0, 1) := by decide +kernel
theorem dX5_permit_33 : decode cX5_permit 33 = .ok (.getfield 19, 3) := by decide +kernel
theorem dX5_permit_36 : decode cX5_permit 36 = .ok (.iload_n 1, 1) := by decide +kernel
theorem dX5_permit_37 : decode cX5_permit 37 = .ok (.iaload, 1) := by decide +kernel
theorem dX5_permit_38 : decode cX5_permit 38 = .ok (.istore_n 3, 1) := by decide +kernel
theorem dX5_permit_39 : decode cX5_permit 39 = .ok (.aload_n 0, 1) := by decide +kernel
theorem dX5_permit_40 : decode cX5_permit 40 = .ok (.getfield 19, 3) := by decide +kernel
theorem dX5_permit_43 : decode cX5_permit 43 = .ok (.iload_n 1, 1) := by decide +kernel
theorem dX5_permit_44 : decode cX5_permit 44 = .ok (.iload_n 2, 1) := by decide +kernel
theorem dX5_permit_45 : decode cX5_permit 45 = .ok (.iastore, 1) := by decide +kernel
theorem dX5_permit_46 : decode cX5_permit 46 = .ok (.iload_n 3, 1) := by decide +kernel
theorem dX5_permit_47 : decode cX5_permit 47 = .ok (.ireturn, 1) := by decide +kernel
theorem dX5_setDamp_0 : decode cX5_setDamp 0 = .ok (.aload_n 0, 1) := by decide +kernel
theorem dX5_setDamp_1 : decode cX5_setDamp 1 = .ok (.iconst 0, 1) := by decide +kernel
theorem dX5_setDamp_2 : decode cX5_setDamp 2 = .ok (.putfield 45, 3) := by decide +kernel
theorem dX5_setDamp_5 : decode cX5_setDamp 5 = .ok (.iload_n 1, 1) := by decide +kernel
theorem dX5_setDamp_6 : decode cX5_setDamp 6 = .ok (.iconst 0, 1) := by decide +kernel
theorem dX5_setDamp_7 : decode cX5_setDamp 7 = .ok (.bipush 6, 2) := by decide +kernel
theorem dX5_setDamp_9 : decode cX5_setDamp 9 = .ok (.invokestatic 60, 3) := by decide +kernel
theorem dX5_setDamp_12 : decode cX5_setDamp 12 = .ok (.ifCond .ne 9, 3) := by decide +kernel
theorem dX5_setDamp_15 : decode cX5_setDamp 15 = .ok (.aload_n 0, 1) := by decide +kernel
theorem dX5_setDamp_16 : decode cX5_setDamp 16 = .ok (.iconst 1, 1) := by decide +kernel
theorem dX5_setDamp_17 : decode cX5_setDamp 17 = .ok (.invokevirtual 67, 3) := by decide +kernel
theorem dX5_setDamp_20 : decode cX5_setDamp 20 = .ok (.ireturn, 1) := by decide +kernel
theorem dX5_setDamp_21 : decode cX5_setDamp 21 = .ok (.iload_n 2, 1) := by decide +kernel
theorem dX5_setDamp_22 : decode cX5_setDamp 22 = .ok (.iconst 0, 1) := by decide +kernel
theorem dX5_setDamp_23 : decode cX5_setDamp 23 = .ok (.iconst 5, 1) := by decide +kernel
theorem dX5_setDamp_24 : decode cX5_setDamp 24 = .ok (.invokestatic 60, 3) := by decide +kernel
theorem dX5_setDamp_27 : decode cX5_setDamp 27 = .ok (.ifCond .ne 9, 3) := by decide +kernel
theorem dX5_setDamp_30 : decode cX5_setDamp 30 = .ok (.aload_n 0, 1) := by decide +kernel
theorem dX5_setDamp_31 : decode cX5_setDamp 31 = .ok (.iconst 2, 1) := by decide +kernel
theorem dX5_setDamp_32 : decode cX5_setDamp 32 = .ok (.invokevirtual 67, 3) := by decide +kernel
theorem dX5_setDamp_35 : decode cX5_setDamp 35 = .ok (.ireturn, 1) := by decide +kernel
theorem dX5_setDamp_36 : decode cX5_setDamp 36 = .ok (.aload_n 0, 1) := by decide +kernel
theorem dX5_setDamp_37 : decode cX5_setDamp 37 = .ok (.getfield 28, 3) := by decide +kernel
theorem dX5_setDamp_40 : decode cX5_setDamp 40 = .ok (.iload_n 1, 1) := by decide +kernel
theorem dX5_setDamp_41 : decode cX5_setDamp 41 = .ok (.iaload, 1) := by decide +kernel
theorem dX5_setDamp_42 : decode cX5_setDamp 42 = .ok (.istore_n 3, 1) := by decide +kernel
theorem dX5_setDamp_43 : decode cX5_setDamp 43 = .ok (.aload_n 0, 1) := by decide +kernel
theorem dX5_setDamp_44 : decode cX5_setDamp 44 = .ok (.getfield 28, 3) := by decide +kernel
theorem dX5_setDamp_47 : decode cX5_setDamp 47 = .ok (.iload_n 1, 1) := by decide +kernel
theorem dX5_setDamp_48 : decode cX5_setDamp 48 = .ok (.iload_n 2, 1) := by decide +kernel
theorem dX5_setDamp_49 : decode cX5_setDamp 49 = .ok (.iastore, 1) := by decide +kernel
theorem dX5_setDamp_50 : decode cX5_setDamp 50 = .ok (.iload_n 3, 1) := by decide +kernel
theorem dX5_setDamp_51 : decode cX5_setDamp 51 = .ok (.ireturn, 1) := by decide +kernel
theorem dX5_soundOf_0 : decode cX5_soundOf 0 = .ok (.iconst 0, 1) := by decide +kernel
theorem dX5_soundOf_1 : decode cX5_soundOf 1 = .ok (.istore 4, 2) := by decide +kernel
theorem dX5_soundOf_3 : decode cX5_soundOf 3 = .ok (.iconst 0, 1) := by decide +kernel
theorem dX5_soundOf_4 : decode cX5_soundOf 4 = .ok (.istore 5, 2) := by decide +kernel
theorem dX5_soundOf_6 : decode cX5_soundOf 6 = .ok (.iload 5, 2) := by decide +kernel
theorem dX5_soundOf_8 : decode cX5_soundOf 8 = .ok (.aload_n 0, 1) := by decide +kernel
theorem dX5_soundOf_9 : decode cX5_soundOf 9 = .ok (.getfield 9, 3) := by decide +kernel
theorem dX5_soundOf_12 : decode cX5_soundOf 12 = .ok (.iload_n 1, 1) := by decide +kernel
theorem dX5_soundOf_13 : decode cX5_soundOf 13 = .ok (.iaload, 1) := by decide +kernel
theorem dX5_soundOf_14 : decode cX5_soundOf 14 = .ok (.if_icmp .ge 44, 3) := by decide +kernel
theorem dX5_soundOf_17 : decode cX5_soundOf 17 = .ok (.aload_n 0, 1) := by decide +kernel
theorem dX5_soundOf_18 : decode cX5_soundOf 18 = .ok (.getfield 13, 3) := by decide +kernel
theorem dX5_soundOf_21 : decode cX5_soundOf 21 = .ok (.bipush 16, 2) := by decide +kernel
theorem dX5_soundOf_23 : decode cX5_soundOf 23 = .ok (.iload_n 1, 1) := by decide +kernel
theorem dX5_soundOf_24 : decode cX5_soundOf 24 = .ok (.imul, 1) := by decide +kernel
theorem dX5_soundOf_25 : decode cX5_soundOf 25 = .ok (.iload 5, 2) := by decide +kernel
theorem dX5_soundOf_27 : decode cX5_soundOf 27 = .ok (.iadd, 1) := by decide +kernel
theorem dX5_soundOf_28 : decode cX5_soundOf 28 = .ok (.iaload, 1) := by decide +kernel
theorem dX5_soundOf_29 : decode cX5_soundOf 29 = .ok (.istore 6, 2) := by decide +kernel
theorem dX5_soundOf_31 : decode cX5_soundOf 31 = .ok (.iload 4, 2) := by decide +kernel
theorem dX5_soundOf_33 : decode cX5_soundOf 33 = .ok (.iload 6, 2) := by decide +kernel
theorem dX5_soundOf_35 : decode cX5_soundOf 35 = .ok (.iload_n 3, 1) := by decide +kernel
theorem dX5_soundOf_36 : decode cX5_soundOf 36 = .ok (.if_icmp .ne 7, 3) := by decide +kernel
theorem dX5_soundOf_39 : decode cX5_soundOf 39 = .ok (.iconst 0, 1) := by decide +kernel
theorem dX5_soundOf_40 : decode cX5_soundOf 40 = .ok (.goto 9, 3) := by decide +kernel
theorem dX5_soundOf_43 : decode cX5_soundOf 43 = .ok (.aload_n 2, 1) := by decide +kernel
theorem dX5_soundOf_44 : decode cX5_soundOf 44 = .ok (.iload 6, 2) := by decide +kernel
theorem dX5_soundOf_46 : decode cX5_soundOf 46 = .ok (.invokevirtual 84, 3) := by decide +kernel
theorem dX5_soundOf_49 : decode cX5_soundOf 49 = .ok (.iadd, 1) := by decide +kernel
theorem dX5_soundOf_50 : decode cX5_soundOf 50 = .ok (.istore 4, 2) := by decide +kernel
theorem dX5_soundOf_52 : decode cX5_soundOf 52 = .ok (.iinc 5 1, 3) := by decide +kernel
theorem dX5_soundOf_55 : decode cX5_soundOf 55 = .ok (.goto (-49), 3) := by decide +kernel
theorem dX5_soundOf_58 : decode cX5_soundOf 58 = .ok (.aload_n 0, 1) := by decide +kernel
theorem dX5_soundOf_59 : decode cX5_soundOf 59 = .ok (.getfield 9, 3) := by decide +kernel
theorem dX5_soundOf_62 : decode cX5_soundOf 62 = .ok (.iload_n 1, 1) := by decide +kernel
theorem dX5_soundOf_63 : decode cX5_soundOf 63 = .ok (.iaload, 1) := by decide +kernel
theorem dX5_soundOf_64 : decode cX5_soundOf 64 = .ok (.ifCond .ne 7, 3) := by decide +kernel
theorem dX5_soundOf_67 : decode cX5_soundOf 67 = .ok (.iconst 0, 1) := by decide +kernel
theorem dX5_soundOf_68 : decode cX5_soundOf 68 = .ok (.goto 15, 3) := by decide +kernel
theorem dX5_soundOf_71 : decode cX5_soundOf 71 = .ok (.bipush 60, 2) := by decide +kernel
theorem dX5_soundOf_73 : decode cX5_soundOf 73 = .ok (.iload 4, 2) := by decide +kernel
theorem dX5_soundOf_75 : decode cX5_soundOf 75 = .ok (.aload_n 0, 1) := by decide +kernel
theorem dX5_soundOf_76 : decode cX5_soundOf 76 = .ok (.getfield 9, 3) := by decide +kernel
theorem dX5_soundOf_79 : decode cX5_soundOf 79 = .ok (.iload_n 1, 1) := by decide +kernel
theorem dX5_soundOf_80 : decode cX5_soundOf 80 = .ok (.iaload, 1) := by decide +kernel
theorem dX5_soundOf_81 : decode cX5_soundOf 81 = .ok (.idiv, 1) := by decide +kernel
theorem dX5_soundOf_82 : decode cX5_soundOf 82 = .ok (.isub, 1) := by decide +kernel
theorem dX5_soundOf_83 : decode cX5_soundOf 83 = .ok (.ireturn, 1) := by decide +kernel
theorem dX5_paysNow_0 : decode cX5_paysNow 0 = .ok (.aload_n 0, 1) := by decide +kernel
theorem dX5_paysNow_1 : decode cX5_paysNow 1 = .ok (.getfield 16, 3) := by decide +kernel
theorem dX5_paysNow_4 : decode cX5_paysNow 4 = .ok (.iload_n 1, 1) := by decide +kernel
theorem dX5_paysNow_5 : decode cX5_paysNow 5 = .ok (.iaload, 1) := by decide +kernel
theorem dX5_paysNow_6 : decode cX5_paysNow 6 = .ok (.aload_n 0, 1) := by decide +kernel
theorem dX5_paysNow_7 : decode cX5_paysNow 7 = .ok (.iload_n 2, 1) := by decide +kernel
theorem dX5_paysNow_8 : decode cX5_paysNow 8 = .ok (.aload_n 0, 1) := by decide +kernel
theorem dX5_paysNow_9 : decode cX5_paysNow 9 = .ok (.getfield 38, 3) := by decide +kernel
theorem dX5_paysNow_12 : decode cX5_paysNow 12 = .ok (.iconst (-1), 1) := by decide +kernel
theorem dX5_paysNow_13 : decode cX5_paysNow 13 = .ok (.invokevirtual 87, 3) := by decide +kernel
theorem dX5_paysNow_16 : decode cX5_paysNow 16 = .ok (.imul, 1) := by decide +kernel
theorem dX5_paysNow_17 : decode cX5_paysNow 17 = .ok (.bipush 60, 2) := by decide +kernel
theorem dX5_paysNow_19 : decode cX5_paysNow 19 = .ok (.idiv, 1) := by decide +kernel
theorem dX5_paysNow_20 : decode cX5_paysNow 20 = .ok (.bipush 20, 2) := by decide +kernel
theorem dX5_paysNow_22 : decode cX5_paysNow 22 = .ok (.aload_n 0, 1) := by decide +kernel
theorem dX5_paysNow_23 : decode cX5_paysNow 23 = .ok (.getfield 25, 3) := by decide +kernel
theorem dX5_paysNow_26 : decode cX5_paysNow 26 = .ok (.bipush 6, 2) := by decide +kernel
theorem dX5_paysNow_28 : decode cX5_paysNow 28 = .ok (.iload_n 1, 1) := by decide +kernel
theorem dX5_paysNow_29 : decode cX5_paysNow 29 = .ok (.imul, 1) := by decide +kernel
theorem dX5_paysNow_30 : decode cX5_paysNow 30 = .ok (.iload_n 2, 1) := by decide +kernel
theorem dX5_paysNow_31 : decode cX5_paysNow 31 = .ok (.iadd, 1) := by decide +kernel
theorem dX5_paysNow_32 : decode cX5_paysNow 32 = .ok (.iaload, 1) := by decide +kernel
theorem dX5_paysNow_33 : decode cX5_paysNow 33 = .ok (.invokestatic 48, 3) := by decide +kernel
theorem dX5_paysNow_36 : decode cX5_paysNow 36 = .ok (.ishr, 1) := by decide +kernel
theorem dX5_paysNow_37 : decode cX5_paysNow 37 = .ok (.ireturn, 1) := by decide +kernel
theorem dX5_isPermitted_0 : decode cX5_isPermitted 0 = .ok (.aload_n 0, 1) := by decide +kernel
theorem dX5_isPermitted_1 : decode cX5_isPermitted 1 = .ok (.getfield 19, 3) := by decide +kernel
theorem dX5_isPermitted_4 : decode cX5_isPermitted 4 = .ok (.iload_n 1, 1) := by decide +kernel
theorem dX5_isPermitted_5 : decode cX5_isPermitted 5 = .ok (.iaload, 1) := by decide +kernel
theorem dX5_isPermitted_6 : decode cX5_isPermitted 6 = .ok (.aload_n 0, 1) := by decide +kernel
theorem dX5_isPermitted_7 : decode cX5_isPermitted 7 = .ok (.getfield 38, 3) := by decide +kernel
theorem dX5_isPermitted_10 : decode cX5_isPermitted 10 = .ok (.getfield 91, 3) := by decide +kernel
theorem dX5_isPermitted_13 : decode cX5_isPermitted 13 = .ok (.bipush 7, 2) := by decide +kernel
theorem dX5_isPermitted_15 : decode cX5_isPermitted 15 = .ok (.irem, 1) := by decide +kernel
theorem dX5_isPermitted_16 : decode cX5_isPermitted 16 = .ok (.ishr, 1) := by decide +kernel
theorem dX5_isPermitted_17 : decode cX5_isPermitted 17 = .ok (.iconst 1, 1) := by decide +kernel
theorem dX5_isPermitted_18 : decode cX5_isPermitted 18 = .ok (.iand, 1) := by decide +kernel
theorem dX5_isPermitted_19 : decode cX5_isPermitted 19 = .ok (.iconst 1, 1) := by decide +kernel
theorem dX5_isPermitted_20 : decode cX5_isPermitted 20 = .ok (.if_icmp .ne 7, 3) := by decide +kernel
theorem dX5_isPermitted_23 : decode cX5_isPermitted 23 = .ok (.iconst 1, 1) := by decide +kernel
theorem dX5_isPermitted_24 : decode cX5_isPermitted 24 = .ok (.goto 4, 3) := by decide +kernel
theorem dX5_isPermitted_27 : decode cX5_isPermitted 27 = .ok (.iconst 0, 1) := by decide +kernel
theorem dX5_isPermitted_28 : decode cX5_isPermitted 28 = .ok (.ireturn, 1) := by decide +kernel
theorem dX5_sing_0 : decode cX5_sing 0 = .ok (.iconst 0, 1) := by decide +kernel
theorem dX5_sing_1 : decode cX5_sing 1 = .ok (.istore_n 3, 1) := by decide +kernel
theorem dX5_sing_2 : decode cX5_sing 2 = .ok (.iload_n 3, 1) := by decide +kernel
theorem dX5_sing_3 : decode cX5_sing 3 = .ok (.aload_n 0, 1) := by decide +kernel
theorem dX5_sing_4 : decode cX5_sing 4 = .ok (.getfield 9, 3) := by decide +kernel
theorem dX5_sing_7 : decode cX5_sing 7 = .ok (.iload_n 1, 1) := by decide +kernel
theorem dX5_sing_8 : decode cX5_sing 8 = .ok (.iaload, 1) := by decide +kernel
theorem dX5_sing_9 : decode cX5_sing 9 = .ok (.if_icmp .ge 24, 3) := by decide +kernel
theorem dX5_sing_12 : decode cX5_sing 12 = .ok (.aload_n 2, 1) := by decide +kernel
theorem dX5_sing_13 : decode cX5_sing 13 = .ok (.aload_n 0, 1) := by decide +kernel
theorem dX5_sing_14 : decode cX5_sing 14 = .ok (.getfield 13, 3) := by decide +kernel
theorem dX5_sing_17 : decode cX5_sing 17 = .ok (.bipush 16, 2) := by decide +kernel
theorem dX5_sing_19 : decode cX5_sing 19 = .ok (.iload_n 1, 1) := by decide +kernel
theorem dX5_sing_20 : decode cX5_sing 20 = .ok (.imul, 1) := by decide +kernel
theorem dX5_sing_21 : decode cX5_sing 21 = .ok (.iload_n 3, 1) := by decide +kernel
theorem dX5_sing_22 : decode cX5_sing 22 = .ok (.iadd, 1) := by decide +kernel
theorem dX5_sing_23 : decode cX5_sing 23 = .ok (.iaload, 1) := by decide +kernel
theorem dX5_sing_24 : decode cX5_sing 24 = .ok (.invokevirtual 94, 3) := by decide +kernel
theorem dX5_sing_27 : decode cX5_sing 27 = .ok (.iinc 3 1, 3) := by decide +kernel
theorem dX5_sing_30 : decode cX5_sing 30 = .ok (.goto (-28), 3) := by decide +kernel
theorem dX5_sing_33 : decode cX5_sing 33 = .ok (.return_, 1) := by decide +kernel
theorem dX5_play_0 : decode cX5_play 0 = .ok (.aload_n 0, 1) := by decide +kernel
theorem dX5_play_1 : decode cX5_play 1 = .ok (.iconst 0, 1) := by decide +kernel
theorem dX5_play_2 : decode cX5_play 2 = .ok (.putfield 45, 3) := by decide +kernel
theorem dX5_play_5 : decode cX5_play 5 = .ok (.aload_n 0, 1) := by decide +kernel
theorem dX5_play_6 : decode cX5_play 6 = .ok (.iload_n 1, 1) := by decide +kernel
theorem dX5_play_7 : decode cX5_play 7 = .ok (.invokevirtual 81, 3) := by decide +kernel
theorem dX5_play_10 : decode cX5_play 10 = .ok (.ifCond .eq 11, 3) := by decide +kernel
theorem dX5_play_13 : decode cX5_play 13 = .ok (.aload_n 0, 1) := by decide +kernel
theorem dX5_play_14 : decode cX5_play 14 = .ok (.iload_n 2, 1) := by decide +kernel
theorem dX5_play_15 : decode cX5_play 15 = .ok (.invokevirtual 71, 3) := by decide +kernel
theorem dX5_play_18 : decode cX5_play 18 = .ok (.ifCond .ne 9, 3) := by decide +kernel
theorem dX5_play_21 : decode cX5_play 21 = .ok (.aload_n 0, 1) := by decide +kernel
theorem dX5_play_22 : decode cX5_play 22 = .ok (.iconst 1, 1) := by decide +kernel
theorem dX5_play_23 : decode cX5_play 23 = .ok (.invokevirtual 67, 3) := by decide +kernel
theorem dX5_play_26 : decode cX5_play 26 = .ok (.ireturn, 1) := by decide +kernel
theorem dX5_play_27 : decode cX5_play 27 = .ok (.aload_n 0, 1) := by decide +kernel
theorem dX5_play_28 : decode cX5_play 28 = .ok (.getfield 9, 3) := by decide +kernel
theorem dX5_play_31 : decode cX5_play 31 = .ok (.iload_n 2, 1) := by decide +kernel
theorem dX5_play_32 : decode cX5_play 32 = .ok (.iaload, 1) := by decide +kernel
theorem dX5_play_33 : decode cX5_play 33 = .ok (.ifCond .ne 9, 3) := by decide +kernel
theorem dX5_play_36 : decode cX5_play 36 = .ok (.aload_n 0, 1) := by decide +kernel
theorem dX5_play_37 : decode cX5_play 37 = .ok (.iconst 2, 1) := by decide +kernel
theorem dX5_play_38 : decode cX5_play 38 = .ok (.invokevirtual 67, 3) := by decide +kernel
theorem dX5_play_41 : decode cX5_play 41 = .ok (.ireturn, 1) := by decide +kernel
theorem dX5_play_42 : decode cX5_play 42 = .ok (.aload_n 0, 1) := by decide +kernel
theorem dX5_play_43 : decode cX5_play 43 = .ok (.iload_n 1, 1) := by decide +kernel
theorem dX5_play_44 : decode cX5_play 44 = .ok (.invokevirtual 98, 3) := by decide +kernel
theorem dX5_play_47 : decode cX5_play 47 = .ok (.ifCond .ne 36, 3) := by decide +kernel
theorem dX5_play_50 : decode cX5_play 50 = .ok (.bipush 10, 2) := by decide +kernel
theorem dX5_play_52 : decode cX5_play 52 = .ok (.aload_n 0, 1) := by decide +kernel
theorem dX5_play_53 : decode cX5_play 53 = .ok (.getfield 31, 3) := by decide +kernel
theorem dX5_play_56 : decode cX5_play 56 = .ok (.invokestatic 48, 3) := by decide +kernel
theorem dX5_play_59 : decode cX5_play 59 = .ok (.istore_n 3, 1) := by decide +kernel
theorem dX5_play_60 : decode cX5_play 60 = .ok (.aload_n 0, 1) := by decide +kernel
theorem dX5_play_61 : decode cX5_play 61 = .ok (.dup, 1) := by decide +kernel
theorem dX5_play_62 : decode cX5_play 62 = .ok (.getfield 31, 3) := by decide +kernel
theorem dX5_play_65 : decode cX5_play 65 = .ok (.iload_n 3, 1) := by decide +kernel
theorem dX5_play_66 : decode cX5_play 66 = .ok (.isub, 1) := by decide +kernel
theorem dX5_play_67 : decode cX5_play 67 = .ok (.putfield 31, 3) := by decide +kernel
theorem dX5_play_70 : decode cX5_play 70 = .ok (.aload_n 0, 1) := by decide +kernel
theorem dX5_play_71 : decode cX5_play 71 = .ok (.dup, 1) := by decide +kernel
theorem dX5_play_72 : decode cX5_play 72 = .ok (.getfield 101, 3) := by decide +kernel
theorem dX5_play_75 : decode cX5_play 75 = .ok (.iload_n 3, 1) := by decide +kernel
theorem dX5_play_76 : decode cX5_play 76 = .ok (.iadd, 1) := by decide +kernel
theorem dX5_play_77 : decode cX5_play 77 = .ok (.putfield 101, 3) := by decide +kernel
theorem dX5_play_80 : decode cX5_play 80 = .ok (.iload_n 3, 1) := by decide +kernel
theorem dX5_play_81 : decode cX5_play 81 = .ok (.ineg, 1) := by decide +kernel
theorem dX5_play_82 : decode cX5_play 82 = .ok (.ireturn, 1) := by decide +kernel
theorem dX5_play_83 : decode cX5_play 83 = .ok (.aload_n 0, 1) := by decide +kernel
theorem dX5_play_84 : decode cX5_play 84 = .ok (.iload_n 1, 1) := by decide +kernel
theorem dX5_play_85 : decode cX5_play 85 = .ok (.iload_n 2, 1) := by decide +kernel
theorem dX5_play_86 : decode cX5_play 86 = .ok (.invokevirtual 104, 3) := by decide +kernel
theorem dX5_play_89 : decode cX5_play 89 = .ok (.istore_n 3, 1) := by decide +kernel
theorem dX5_play_90 : decode cX5_play 90 = .ok (.aload_n 0, 1) := by decide +kernel
theorem dX5_play_91 : decode cX5_play 91 = .ok (.dup, 1) := by decide +kernel
theorem dX5_play_92 : decode cX5_play 92 = .ok (.getfield 31, 3) := by decide +kernel
theorem dX5_play_95 : decode cX5_play 95 = .ok (.iload_n 3, 1) := by decide +kernel
theorem dX5_play_96 : decode cX5_play 96 = .ok (.iadd, 1) := by decide +kernel
theorem dX5_play_97 : decode cX5_play 97 = .ok (.putfield 31, 3) := by decide +kernel
theorem dX5_play_100 : decode cX5_play 100 = .ok (.aload_n 0, 1) := by decide +kernel
theorem dX5_play_101 : decode cX5_play 101 = .ok (.getfield 22, 3) := by decide +kernel
theorem dX5_play_104 : decode cX5_play 104 = .ok (.iload_n 1, 1) := by decide +kernel
theorem dX5_play_105 : decode cX5_play 105 = .ok (.dup2, 1) := by decide +kernel
theorem dX5_play_106 : decode cX5_play 106 = .ok (.iaload, 1) := by decide +kernel
theorem dX5_play_107 : decode cX5_play 107 = .ok (.iload_n 3, 1) := by decide +kernel
theorem dX5_play_108 : decode cX5_play 108 = .ok (.iadd, 1) := by decide +kernel
theorem dX5_play_109 : decode cX5_play 109 = .ok (.iastore, 1) := by decide +kernel
theorem dX5_play_110 : decode cX5_play 110 = .ok (.aload_n 0, 1) := by decide +kernel
theorem dX5_play_111 : decode cX5_play 111 = .ok (.getfield 25, 3) := by decide +kernel
theorem dX5_play_114 : decode cX5_play 114 = .ok (.bipush 6, 2) := by decide +kernel
theorem dX5_play_116 : decode cX5_play 116 = .ok (.iload_n 1, 1) := by decide +kernel
theorem dX5_play_117 : decode cX5_play 117 = .ok (.imul, 1) := by decide +kernel
theorem dX5_play_118 : decode cX5_play 118 = .ok (.iload_n 2, 1) := by decide +kernel
theorem dX5_play_119 : decode cX5_play 119 = .ok (.iadd, 1) := by decide +kernel
theorem dX5_play_120 : decode cX5_play 120 = .ok (.dup2, 1) := by decide +kernel
theorem dX5_play_121 : decode cX5_play 121 = .ok (.iaload, 1) := by decide +kernel
theorem dX5_play_122 : decode cX5_play 122 = .ok (.iconst 1, 1) := by decide +kernel
theorem dX5_play_123 : decode cX5_play 123 = .ok (.iadd, 1) := by decide +kernel
theorem dX5_play_124 : decode cX5_play 124 = .ok (.iastore, 1) := by decide +kernel
theorem dX5_play_125 : decode cX5_play 125 = .ok (.aload_n 0, 1) := by decide +kernel
theorem dX5_play_126 : decode cX5_play 126 = .ok (.iload_n 2, 1) := by decide +kernel
theorem dX5_play_127 : decode cX5_play 127 = .ok (.aload_n 0, 1) := by decide +kernel
theorem dX5_play_128 : decode cX5_play 128 = .ok (.getfield 38, 3) := by decide +kernel
theorem dX5_play_131 : decode cX5_play 131 = .ok (.invokevirtual 107, 3) := by decide +kernel
theorem dX5_play_134 : decode cX5_play 134 = .ok (.iload_n 3, 1) := by decide +kernel
theorem dX5_play_135 : decode cX5_play 135 = .ok (.ireturn, 1) := by decide +kernel
theorem dX5_tune_0 : decode cX5_tune 0 = .ok (.aload_n 0, 1) := by decide +kernel
theorem dX5_tune_1 : decode cX5_tune 1 = .ok (.iconst 0, 1) := by decide +kernel
theorem dX5_tune_2 : decode cX5_tune 2 = .ok (.putfield 45, 3) := by decide +kernel
theorem dX5_tune_5 : decode cX5_tune 5 = .ok (.iload_n 1, 1) := by decide +kernel
theorem dX5_tune_6 : decode cX5_tune 6 = .ok (.invokestatic 75, 3) := by decide +kernel
theorem dX5_tune_9 : decode cX5_tune 9 = .ok (.ifCond .ne 9, 3) := by decide +kernel
theorem dX5_tune_12 : decode cX5_tune 12 = .ok (.aload_n 0, 1) := by decide +kernel
theorem dX5_tune_13 : decode cX5_tune 13 = .ok (.iconst 1, 1) := by decide +kernel
theorem dX5_tune_14 : decode cX5_tune 14 = .ok (.invokevirtual 67, 3) := by decide +kernel
theorem dX5_tune_17 : decode cX5_tune 17 = .ok (.ireturn, 1) := by decide +kernel
theorem dX5_tune_18 : decode cX5_tune 18 = .ok (.iload_n 2, 1) := by decide +kernel
theorem dX5_tune_19 : decode cX5_tune 19 = .ok (.bipush (-120), 2) := by decide +kernel
theorem dX5_tune_21 : decode cX5_tune 21 = .ok (.bipush 120, 2) := by decide +kernel
theorem dX5_tune_23 : decode cX5_tune 23 = .ok (.invokestatic 60, 3) := by decide +kernel
theorem dX5_tune_26 : decode cX5_tune 26 = .ok (.ifCond .ne 9, 3) := by decide +kernel
theorem dX5_tune_29 : decode cX5_tune 29 = .ok (.aload_n 0, 1) := by decide +kernel
theorem dX5_tune_30 : decode cX5_tune 30 = .ok (.iconst 2, 1) := by decide +kernel
theorem dX5_tune_31 : decode cX5_tune 31 = .ok (.invokevirtual 67, 3) := by decide +kernel
theorem dX5_tune_34 : decode cX5_tune 34 = .ok (.ireturn, 1) := by decide +kernel
theorem dX5_tune_35 : decode cX5_tune 35 = .ok (.aload_n 0, 1) := by decide +kernel
theorem dX5_tune_36 : decode cX5_tune 36 = .ok (.getfield 38, 3) := by decide +kernel
theorem dX5_tune_39 : decode cX5_tune 39 = .ok (.getfield 110, 3) := by decide +kernel
theorem dX5_tune_42 : decode cX5_tune 42 = .ok (.iload_n 1, 1) := by decide +kernel
theorem dX5_tune_43 : decode cX5_tune 43 = .ok (.aload_n 0, 1) := by decide +kernel
theorem dX5_tune_44 : decode cX5_tune 44 = .ok (.getfield 38, 3) := by decide +kernel
theorem dX5_tune_47 : decode cX5_tune 47 = .ok (.getfield 110, 3) := by decide +kernel
theorem dX5_tune_50 : decode cX5_tune 50 = .ok (.iload_n 1, 1) := by decide +kernel
theorem dX5_tune_51 : decode cX5_tune 51 = .ok (.iaload, 1) := by decide +kernel
theorem dX5_tune_52 : decode cX5_tune 52 = .ok (.iload_n 2, 1) := by decide +kernel
theorem dX5_tune_53 : decode cX5_tune 53 = .ok (.iadd, 1) := by decide +kernel
theorem dX5_tune_54 : decode cX5_tune 54 = .ok (.invokestatic 113, 3) := by decide +kernel
theorem dX5_tune_57 : decode cX5_tune 57 = .ok (.iastore, 1) := by decide +kernel
theorem dX5_tune_58 : decode cX5_tune 58 = .ok (.aload_n 0, 1) := by decide +kernel
theorem dX5_tune_59 : decode cX5_tune 59 = .ok (.getfield 38, 3) := by decide +kernel
theorem dX5_tune_62 : decode cX5_tune 62 = .ok (.getfield 110, 3) := by decide +kernel
theorem dX5_tune_65 : decode cX5_tune 65 = .ok (.iload_n 1, 1) := by decide +kernel
theorem dX5_tune_66 : decode cX5_tune 66 = .ok (.iaload, 1) := by decide +kernel
theorem dX5_tune_67 : decode cX5_tune 67 = .ok (.ireturn, 1) := by decide +kernel
theorem dX5_felt_0 : decode cX5_felt 0 = .ok (.aload_n 0, 1) := by decide +kernel
theorem dX5_felt_1 : decode cX5_felt 1 = .ok (.iconst 0, 1) := by decide +kernel
theorem dX5_felt_2 : decode cX5_felt 2 = .ok (.putfield 45, 3) := by decide +kernel
theorem dX5_felt_5 : decode cX5_felt 5 = .ok (.iload_n 1, 1) := by decide +kernel
theorem dX5_felt_6 : decode cX5_felt 6 = .ok (.invokestatic 75, 3) := by decide +kernel
theorem dX5_felt_9 : decode cX5_felt 9 = .ok (.ifCond .ne 9, 3) := by decide +kernel
theorem dX5_felt_12 : decode cX5_felt 12 = .ok (.aload_n 0, 1) := by decide +kernel
theorem dX5_felt_13 : decode cX5_felt 13 = .ok (.iconst 1, 1) := by decide +kernel
theorem dX5_felt_14 : decode cX5_felt 14 = .ok (.invokevirtual 67, 3) := by decide +kernel
theorem dX5_felt_17 : decode cX5_felt 17 = .ok (.ireturn, 1) := by decide +kernel
theorem dX5_felt_18 : decode cX5_felt 18 = .ok (.aload_n 0, 1) := by decide +kernel
theorem dX5_felt_19 : decode cX5_felt 19 = .ok (.getfield 31, 3) := by decide +kernel
theorem dX5_felt_22 : decode cX5_felt 22 = .ok (.iconst 4, 1) := by decide +kernel
theorem dX5_felt_23 : decode cX5_felt 23 = .ok (.if_icmp .ge 9, 3) := by decide +kernel
theorem dX5_felt_26 : decode cX5_felt 26 = .ok (.aload_n 0, 1) := by decide +kernel
theorem dX5_felt_27 : decode cX5_felt 27 = .ok (.iconst 2, 1) := by decide +kernel
theorem dX5_felt_28 : decode cX5_felt 28 = .ok (.invokevirtual 67, 3) := by decide +kernel
theorem dX5_felt_31 : decode cX5_felt 31 = .ok (.ireturn, 1) := by decide +kernel
theorem dX5_felt_32 : decode cX5_felt 32 = .ok (.aload_n 0, 1) := by decide +kernel
theorem dX5_felt_33 : decode cX5_felt 33 = .ok (.dup, 1) := by decide +kernel
theorem dX5_felt_34 : decode cX5_felt 34 = .ok (.getfield 31, 3) := by decide +kernel
theorem dX5_felt_37 : decode cX5_felt 37 = .ok (.iconst 4, 1) := by decide +kernel
theorem dX5_felt_38 : decode cX5_felt 38 = .ok (.isub, 1) := by decide +kernel
theorem dX5_felt_39 : decode cX5_felt 39 = .ok (.putfield 31, 3) := by decide +kernel
theorem dX5_felt_42 : decode cX5_felt 42 = .ok (.aload_n 0, 1) := by decide +kernel
theorem dX5_felt_43 : decode cX5_felt 43 = .ok (.getfield 38, 3) := by decide +kernel
theorem dX5_felt_46 : decode cX5_felt 46 = .ok (.getfield 116, 3) := by decide +kernel
theorem dX5_felt_49 : decode cX5_felt 49 = .ok (.iload_n 1, 1) := by decide +kernel
theorem dX5_felt_50 : decode cX5_felt 50 = .ok (.iaload, 1) := by decide +kernel
theorem dX5_felt_51 : decode cX5_felt 51 = .ok (.istore_n 2, 1) := by decide +kernel
theorem dX5_felt_52 : decode cX5_felt 52 = .ok (.aload_n 0, 1) := by decide +kernel
theorem dX5_felt_53 : decode cX5_felt 53 = .ok (.getfield 38, 3) := by decide +kernel
theorem dX5_felt_56 : decode cX5_felt 56 = .ok (.getfield 116, 3) := by decide +kernel
theorem dX5_felt_59 : decode cX5_felt 59 = .ok (.iload_n 1, 1) := by decide +kernel
theorem dX5_felt_60 : decode cX5_felt 60 = .ok (.iconst 0, 1) := by decide +kernel
theorem dX5_felt_61 : decode cX5_felt 61 = .ok (.iastore, 1) := by decide +kernel
theorem dX5_felt_62 : decode cX5_felt 62 = .ok (.iload_n 2, 1) := by decide +kernel
theorem dX5_felt_63 : decode cX5_felt 63 = .ok (.ireturn, 1) := by decide +kernel
theorem dX5_chase_0 : decode cX5_chase 0 = .ok (.aload_n 0, 1) := by decide +kernel
theorem dX5_chase_1 : decode cX5_chase 1 = .ok (.iconst 0, 1) := by decide +kernel
theorem dX5_chase_2 : decode cX5_chase 2 = .ok (.putfield 45, 3) := by decide +kernel
theorem dX5_chase_5 : decode cX5_chase 5 = .ok (.aload_n 0, 1) := by decide +kernel
theorem dX5_chase_6 : decode cX5_chase 6 = .ok (.getfield 38, 3) := by decide +kernel
theorem dX5_chase_9 : decode cX5_chase 9 = .ok (.invokevirtual 119, 3) := by decide +kernel
theorem dX5_chase_12 : decode cX5_chase 12 = .ok (.istore_n 1, 1) := by decide +kernel
theorem dX5_chase_13 : decode cX5_chase 13 = .ok (.iconst 0, 1) := by decide +kernel
theorem dX5_chase_14 : decode cX5_chase 14 = .ok (.istore_n 2, 1) := by decide +kernel
theorem dX5_chase_15 : decode cX5_chase 15 = .ok (.iload_n 2, 1) := by decide +kernel
theorem dX5_chase_16 : decode cX5_chase 16 = .ok (.bipush 12, 2) := by decide +kernel
theorem dX5_chase_18 : decode cX5_chase 18 = .ok (.if_icmp .ge 19, 3) := by decide +kernel
theorem dX5_chase_21 : decode cX5_chase 21 = .ok (.aload_n 0, 1) := by decide +kernel
theorem dX5_chase_22 : decode cX5_chase 22 = .ok (.getfield 38, 3) := by decide +kernel
theorem dX5_chase_25 : decode cX5_chase 25 = .ok (.getfield 123, 3) := by decide +kernel
theorem dX5_chase_28 : decode cX5_chase 28 = .ok (.iload_n 2, 1) := by decide +kernel
theorem dX5_chase_29 : decode cX5_chase 29 = .ok (.iconst 0, 1) := by decide +kernel
theorem dX5_chase_30 : decode cX5_chase 30 = .ok (.iastore, 1) := by decide +kernel
theorem dX5_chase_31 : decode cX5_chase 31 = .ok (.iinc 2 1, 3) := by decide +kernel
theorem dX5_chase_34 : decode cX5_chase 34 = .ok (.goto (-19), 3) := by decide +kernel
theorem dX5_chase_37 : decode cX5_chase 37 = .ok (.iload_n 1, 1) := by decide +kernel
theorem dX5_chase_38 : decode cX5_chase 38 = .ok (.ireturn, 1) := by decide +kernel
theorem dX5_pipeTold_0 : decode cX5_pipeTold 0 = .ok (.iload_n 2, 1) := by decide +kernel
theorem dX5_pipeTold_1 : decode cX5_pipeTold 1 = .ok (.ifCond .ne 15, 3) := by decide +kernel
theorem dX5_pipeTold_4 : decode cX5_pipeTold 4 = .ok (.aload_n 0, 1) := by decide +kernel
theorem dX5_pipeTold_5 : decode cX5_pipeTold 5 = .ok (.getfield 38, 3) := by decide +kernel
theorem dX5_pipeTold_8 : decode cX5_pipeTold 8 = .ok (.getfield 116, 3) := by decide +kernel
theorem dX5_pipeTold_11 : decode cX5_pipeTold 11 = .ok (.iload_n 1, 1) := by decide +kernel
theorem dX5_pipeTold_12 : decode cX5_pipeTold 12 = .ok (.iaload, 1) := by decide +kernel
theorem dX5_pipeTold_13 : decode cX5_pipeTold 13 = .ok (.goto 62, 3) := by decide +kernel
theorem dX5_pipeTold_16 : decode cX5_pipeTold 16 = .ok (.iload_n 2, 1) := by decide +kernel
theorem dX5_pipeTold_17 : decode cX5_pipeTold 17 = .ok (.iconst 1, 1) := by decide +kernel
theorem dX5_pipeTold_18 : decode cX5_pipeTold 18 = .ok (.if_icmp .ne 15, 3) := by decide +kernel
theorem dX5_pipeTold_21 : decode cX5_pipeTold 21 = .ok (.aload_n 0, 1) := by decide +kernel
theorem dX5_pipeTold_22 : decode cX5_pipeTold 22 = .ok (.getfield 38, 3) := by decide +kernel
theorem dX5_pipeTold_25 : decode cX5_pipeTold 25 = .ok (.getfield 110, 3) := by decide +kernel
theorem dX5_pipeTold_28 : decode cX5_pipeTold 28 = .ok (.iload_n 1, 1) := by decide +kernel
theorem dX5_pipeTold_29 : decode cX5_pipeTold 29 = .ok (.iaload, 1) := by decide +kernel
theorem dX5_pipeTold_30 : decode cX5_pipeTold 30 = .ok (.goto 45, 3) := by decide +kernel
theorem dX5_pipeTold_33 : decode cX5_pipeTold 33 = .ok (.iload_n 2, 1) := by decide +kernel
theorem dX5_pipeTold_34 : decode cX5_pipeTold 34 = .ok (.iconst 2, 1) := by decide +kernel
theorem dX5_pipeTold_35 : decode cX5_pipeTold 35 = .ok (.if_icmp .ne 15, 3) := by decide +kernel
theorem dX5_pipeTold_38 : decode cX5_pipeTold 38 = .ok (.aload_n 0, 1) := by decide +kernel
theorem dX5_pipeTold_39 : decode cX5_pipeTold 39 = .ok (.getfield 38, 3) := by decide +kernel
theorem dX5_pipeTold_42 : decode cX5_pipeTold 42 = .ok (.getfield 123, 3) := by decide +kernel
theorem dX5_pipeTold_45 : decode cX5_pipeTold 45 = .ok (.iload_n 1, 1) := by decide +kernel
theorem dX5_pipeTold_46 : decode cX5_pipeTold 46 = .ok (.iaload, 1) := by decide +kernel
theorem dX5_pipeTold_47 : decode cX5_pipeTold 47 = .ok (.goto 28, 3) := by decide +kernel
theorem dX5_pipeTold_50 : decode cX5_pipeTold 50 = .ok (.iload_n 2, 1) := by decide +kernel
theorem dX5_pipeTold_51 : decode cX5_pipeTold 51 = .ok (.iconst 3, 1) := by decide +kernel
theorem dX5_pipeTold_52 : decode cX5_pipeTold 52 = .ok (.if_icmp .ne 14, 3) := by decide +kernel
theorem dX5_pipeTold_55 : decode cX5_pipeTold 55 = .ok (.aload_n 0, 1) := by decide +kernel
theorem dX5_pipeTold_56 : decode cX5_pipeTold 56 = .ok (.getfield 38, 3) := by decide +kernel
theorem dX5_pipeTold_59 : decode cX5_pipeTold 59 = .ok (.iload_n 1, 1) := by decide +kernel
theorem dX5_pipeTold_60 : decode cX5_pipeTold 60 = .ok (.invokevirtual 84, 3) := by decide +kernel
theorem dX5_pipeTold_63 : decode cX5_pipeTold 63 = .ok (.goto 12, 3) := by decide +kernel
theorem dX5_pipeTold_66 : decode cX5_pipeTold 66 = .ok (.aload_n 0, 1) := by decide +kernel
theorem dX5_pipeTold_67 : decode cX5_pipeTold 67 = .ok (.getfield 38, 3) := by decide +kernel
theorem dX5_pipeTold_70 : decode cX5_pipeTold 70 = .ok (.getfield 126, 3) := by decide +kernel
theorem dX5_pipeTold_73 : decode cX5_pipeTold 73 = .ok (.iload_n 1, 1) := by decide +kernel
theorem dX5_pipeTold_74 : decode cX5_pipeTold 74 = .ok (.iaload, 1) := by decide +kernel
theorem dX5_pipeTold_75 : decode cX5_pipeTold 75 = .ok (.ireturn, 1) := by decide +kernel
theorem dX5_pipe_0 : decode cX5_pipe 0 = .ok (.aload_n 0, 1) := by decide +kernel
theorem dX5_pipe_1 : decode cX5_pipe 1 = .ok (.iconst 0, 1) := by decide +kernel
theorem dX5_pipe_2 : decode cX5_pipe 2 = .ok (.putfield 45, 3) := by decide +kernel
theorem dX5_pipe_5 : decode cX5_pipe 5 = .ok (.iload_n 1, 1) := by decide +kernel
theorem dX5_pipe_6 : decode cX5_pipe 6 = .ok (.invokestatic 75, 3) := by decide +kernel
theorem dX5_pipe_9 : decode cX5_pipe 9 = .ok (.ifCond .eq 21, 3) := by decide +kernel
theorem dX5_pipe_12 : decode cX5_pipe 12 = .ok (.iload_n 2, 1) := by decide +kernel
theorem dX5_pipe_13 : decode cX5_pipe 13 = .ok (.iconst 0, 1) := by decide +kernel
theorem dX5_pipe_14 : decode cX5_pipe 14 = .ok (.iconst 4, 1) := by decide +kernel
theorem dX5_pipe_15 : decode cX5_pipe 15 = .ok (.invokestatic 60, 3) := by decide +kernel
theorem dX5_pipe_18 : decode cX5_pipe 18 = .ok (.ifCond .eq 12, 3) := by decide +kernel
theorem dX5_pipe_21 : decode cX5_pipe 21 = .ok (.aload_n 0, 1) := by decide +kernel
theorem dX5_pipe_22 : decode cX5_pipe 22 = .ok (.iload_n 1, 1) := by decide +kernel
theorem dX5_pipe_23 : decode cX5_pipe 23 = .ok (.iload_n 2, 1) := by decide +kernel
theorem dX5_pipe_24 : decode cX5_pipe 24 = .ok (.invokevirtual 129, 3) := by decide +kernel
theorem dX5_pipe_27 : decode cX5_pipe 27 = .ok (.goto 8, 3) := by decide +kernel
theorem dX5_pipe_30 : decode cX5_pipe 30 = .ok (.aload_n 0, 1) := by decide +kernel
theorem dX5_pipe_31 : decode cX5_pipe 31 = .ok (.iconst 1, 1) := by decide +kernel
theorem dX5_pipe_32 : decode cX5_pipe 32 = .ok (.invokevirtual 67, 3) := by decide +kernel
theorem dX5_pipe_35 : decode cX5_pipe 35 = .ok (.ireturn, 1) := by decide +kernel
theorem dX5_sound_0 : decode cX5_sound 0 = .ok (.aload_n 0, 1) := by decide +kernel
theorem dX5_sound_1 : decode cX5_sound 1 = .ok (.iconst 0, 1) := by decide +kernel
theorem dX5_sound_2 : decode cX5_sound 2 = .ok (.putfield 45, 3) := by decide +kernel
theorem dX5_sound_5 : decode cX5_sound 5 = .ok (.aload_n 0, 1) := by decide +kernel
theorem dX5_sound_6 : decode cX5_sound 6 = .ok (.iload_n 1, 1) := by decide +kernel
theorem dX5_sound_7 : decode cX5_sound 7 = .ok (.invokevirtual 71, 3) := by decide +kernel
theorem dX5_sound_10 : decode cX5_sound 10 = .ok (.ifCond .eq 16, 3) := by decide +kernel
theorem dX5_sound_13 : decode cX5_sound 13 = .ok (.aload_n 0, 1) := by decide +kernel
theorem dX5_sound_14 : decode cX5_sound 14 = .ok (.iload_n 1, 1) := by decide +kernel
theorem dX5_sound_15 : decode cX5_sound 15 = .ok (.aload_n 0, 1) := by decide +kernel
theorem dX5_sound_16 : decode cX5_sound 16 = .ok (.getfield 38, 3) := by decide +kernel
theorem dX5_sound_19 : decode cX5_sound 19 = .ok (.iconst (-1), 1) := by decide +kernel
theorem dX5_sound_20 : decode cX5_sound 20 = .ok (.invokevirtual 87, 3) := by decide +kernel
theorem dX5_sound_23 : decode cX5_sound 23 = .ok (.goto 8, 3) := by decide +kernel
theorem dX5_sound_26 : decode cX5_sound 26 = .ok (.aload_n 0, 1) := by decide +kernel
theorem dX5_sound_27 : decode cX5_sound 27 = .ok (.iconst 1, 1) := by decide +kernel
theorem dX5_sound_28 : decode cX5_sound 28 = .ok (.invokevirtual 67, 3) := by decide +kernel
theorem dX5_sound_31 : decode cX5_sound 31 = .ok (.ireturn, 1) := by decide +kernel
theorem dX5_streetTold_0 : decode cX5_streetTold 0 = .ok (.iconst 0, 1) := by decide +kernel
theorem dX5_streetTold_1 : decode cX5_streetTold 1 = .ok (.istore_n 3, 1) := by decide +kernel
theorem dX5_streetTold_2 : decode cX5_streetTold 2 = .ok (.iconst 0, 1) := by decide +kernel
theorem dX5_streetTold_3 : decode cX5_streetTold 3 = .ok (.istore 4, 2) := by decide +kernel
theorem dX5_streetTold_5 : decode cX5_streetTold 5 = .ok (.iload 4, 2) := by decide +kernel
theorem dX5_streetTold_7 : decode cX5_streetTold 7 = .ok (.aload_n 0, 1) := by decide +kernel
theorem dX5_streetTold_8 : decode cX5_streetTold 8 = .ok (.getfield 57, 3) := by decide +kernel
theorem dX5_streetTold_11 : decode cX5_streetTold 11 = .ok (.if_icmp .ge 24, 3) := by decide +kernel
theorem dX5_streetTold_14 : decode cX5_streetTold 14 = .ok (.iload_n 3, 1) := by decide +kernel
theorem dX5_streetTold_15 : decode cX5_streetTold 15 = .ok (.aload_n 0, 1) := by decide +kernel
theorem dX5_streetTold_16 : decode cX5_streetTold 16 = .ok (.getfield 25, 3) := by decide +kernel
theorem dX5_streetTold_19 : decode cX5_streetTold 19 = .ok (.bipush 6, 2) := by decide +kernel
theorem dX5_streetTold_21 : decode cX5_streetTold 21 = .ok (.iload_n 1, 1) := by decide +kernel
theorem dX5_streetTold_22 : decode cX5_streetTold 22 = .ok (.imul, 1) := by decide +kernel
theorem dX5_streetTold_23 : decode cX5_streetTold 23 = .ok (.iload 4, 2) := by decide +kernel
theorem dX5_streetTold_25 : decode cX5_streetTold 25 = .ok (.iadd, 1) := by decide +kernel
theorem dX5_streetTold_26 : decode cX5_streetTold 26 = .ok (.iaload, 1) := by decide +kernel
theorem dX5_streetTold_27 : decode cX5_streetTold 27 = .ok (.iadd, 1) := by decide +kernel
theorem dX5_streetTold_28 : decode cX5_streetTold 28 = .ok (.istore_n 3, 1) := by decide +kernel
theorem dX5_streetTold_29 : decode cX5_streetTold 29 = .ok (.iinc 4 1, 3) := by decide +kernel
theorem dX5_streetTold_32 : decode cX5_streetTold 32 = .ok (.goto (-27), 3) := by decide +kernel
theorem dX5_streetTold_35 : decode cX5_streetTold 35 = .ok (.iconst 5, 1) := by decide +kernel
theorem dX5_streetTold_36 : decode cX5_streetTold 36 = .ok (.newarray .int, 2) := by decide +kernel
theorem dX5_streetTold_38 : decode cX5_streetTold 38 = .ok (.dup, 1) := by decide +kernel
theorem dX5_streetTold_39 : decode cX5_streetTold 39 = .ok (.iconst 0, 1) := by decide +kernel
theorem dX5_streetTold_40 : decode cX5_streetTold 40 = .ok (.aload_n 0, 1) := by decide +kernel
theorem dX5_streetTold_41 : decode cX5_streetTold 41 = .ok (.getfield 16, 3) := by decide +kernel
theorem dX5_streetTold_44 : decode cX5_streetTold 44 = .ok (.iload_n 1, 1) := by decide +kernel
theorem dX5_streetTold_45 : decode cX5_streetTold 45 = .ok (.iaload, 1) := by decide +kernel
theorem dX5_streetTold_46 : decode cX5_streetTold 46 = .ok (.iastore, 1) := by decide +kernel
theorem dX5_streetTold_47 : decode cX5_streetTold 47 = .ok (.dup, 1) := by decide +kernel
theorem dX5_streetTold_48 : decode cX5_streetTold 48 = .ok (.iconst 1, 1) := by decide +kernel
theorem dX5_streetTold_49 : decode cX5_streetTold 49 = .ok (.aload_n 0, 1) := by decide +kernel
theorem dX5_streetTold_50 : decode cX5_streetTold 50 = .ok (.getfield 19, 3) := by decide +kernel
theorem dX5_streetTold_53 : decode cX5_streetTold 53 = .ok (.iload_n 1, 1) := by decide +kernel
theorem dX5_streetTold_54 : decode cX5_streetTold 54 = .ok (.iaload, 1) := by decide +kernel
theorem dX5_streetTold_55 : decode cX5_streetTold 55 = .ok (.iastore, 1) := by decide +kernel
theorem dX5_streetTold_56 : decode cX5_streetTold 56 = .ok (.dup, 1) := by decide +kernel
theorem dX5_streetTold_57 : decode cX5_streetTold 57 = .ok (.iconst 2, 1) := by decide +kernel
theorem dX5_streetTold_58 : decode cX5_streetTold 58 = .ok (.aload_n 0, 1) := by decide +kernel
theorem dX5_streetTold_59 : decode cX5_streetTold 59 = .ok (.iload_n 1, 1) := by decide +kernel
theorem dX5_streetTold_60 : decode cX5_streetTold 60 = .ok (.invokevirtual 98, 3) := by decide +kernel
theorem dX5_streetTold_63 : decode cX5_streetTold 63 = .ok (.ifCond .eq 7, 3) := by decide +kernel
theorem dX5_streetTold_66 : decode cX5_streetTold 66 = .ok (.iconst 1, 1) := by decide +kernel
theorem dX5_streetTold_67 : decode cX5_streetTold 67 = .ok (.goto 4, 3) := by decide +kernel
theorem dX5_streetTold_70 : decode cX5_streetTold 70 = .ok (.iconst 0, 1) := by decide +kernel
theorem dX5_streetTold_71 : decode cX5_streetTold 71 = .ok (.iastore, 1) := by decide +kernel
theorem dX5_streetTold_72 : decode cX5_streetTold 72 = .ok (.dup, 1) := by decide +kernel
theorem dX5_streetTold_73 : decode cX5_streetTold 73 = .ok (.iconst 3, 1) := by decide +kernel
theorem dX5_streetTold_74 : decode cX5_streetTold 74 = .ok (.aload_n 0, 1) := by decide +kernel
theorem dX5_streetTold_75 : decode cX5_streetTold 75 = .ok (.getfield 22, 3) := by decide +kernel
theorem dX5_streetTold_78 : decode cX5_streetTold 78 = .ok (.iload_n 1, 1) := by decide +kernel
theorem dX5_streetTold_79 : decode cX5_streetTold 79 = .ok (.iaload, 1) := by decide +kernel
theorem dX5_streetTold_80 : decode cX5_streetTold 80 = .ok (.iastore, 1) := by decide +kernel
theorem dX5_streetTold_81 : decode cX5_streetTold 81 = .ok (.dup, 1) := by decide +kernel
theorem dX5_streetTold_82 : decode cX5_streetTold 82 = .ok (.iconst 4, 1) := by decide +kernel
theorem dX5_streetTold_83 : decode cX5_streetTold 83 = .ok (.iload_n 3, 1) := by decide +kernel
theorem dX5_streetTold_84 : decode cX5_streetTold 84 = .ok (.iastore, 1) := by decide +kernel
theorem dX5_streetTold_85 : decode cX5_streetTold 85 = .ok (.astore 4, 2) := by decide +kernel
theorem dX5_streetTold_87 : decode cX5_streetTold 87 = .ok (.aload 4, 2) := by decide +kernel
theorem dX5_streetTold_89 : decode cX5_streetTold 89 = .ok (.iload_n 2, 1) := by decide +kernel
theorem dX5_streetTold_90 : decode cX5_streetTold 90 = .ok (.iaload, 1) := by decide +kernel
theorem dX5_streetTold_91 : decode cX5_streetTold 91 = .ok (.ireturn, 1) := by decide +kernel
theorem dX5_told_0 : decode cX5_told 0 = .ok (.aload_n 0, 1) := by decide +kernel
theorem dX5_told_1 : decode cX5_told 1 = .ok (.iconst 0, 1) := by decide +kernel
theorem dX5_told_2 : decode cX5_told 2 = .ok (.putfield 45, 3) := by decide +kernel
theorem dX5_told_5 : decode cX5_told 5 = .ok (.aload_n 0, 1) := by decide +kernel
theorem dX5_told_6 : decode cX5_told 6 = .ok (.iload_n 1, 1) := by decide +kernel
theorem dX5_told_7 : decode cX5_told 7 = .ok (.invokevirtual 81, 3) := by decide +kernel
theorem dX5_told_10 : decode cX5_told 10 = .ok (.ifCond .eq 21, 3) := by decide +kernel
theorem dX5_told_13 : decode cX5_told 13 = .ok (.iload_n 2, 1) := by decide +kernel
theorem dX5_told_14 : decode cX5_told 14 = .ok (.iconst 0, 1) := by decide +kernel
theorem dX5_told_15 : decode cX5_told 15 = .ok (.iconst 4, 1) := by decide +kernel
theorem dX5_told_16 : decode cX5_told 16 = .ok (.invokestatic 60, 3) := by decide +kernel
theorem dX5_told_19 : decode cX5_told 19 = .ok (.ifCond .eq 12, 3) := by decide +kernel
theorem dX5_told_22 : decode cX5_told 22 = .ok (.aload_n 0, 1) := by decide +kernel
theorem dX5_told_23 : decode cX5_told 23 = .ok (.iload_n 1, 1) := by decide +kernel
theorem dX5_told_24 : decode cX5_told 24 = .ok (.iload_n 2, 1) := by decide +kernel
theorem dX5_told_25 : decode cX5_told 25 = .ok (.invokevirtual 132, 3) := by decide +kernel
theorem dX5_told_28 : decode cX5_told 28 = .ok (.goto 8, 3) := by decide +kernel
theorem dX5_told_31 : decode cX5_told 31 = .ok (.aload_n 0, 1) := by decide +kernel
theorem dX5_told_32 : decode cX5_told 32 = .ok (.iconst 1, 1) := by decide +kernel
theorem dX5_told_33 : decode cX5_told 33 = .ok (.invokevirtual 67, 3) := by decide +kernel
theorem dX5_told_36 : decode cX5_told 36 = .ok (.ireturn, 1) := by decide +kernel
theorem dX5_counted_0 : decode cX5_counted 0 = .ok (.bipush 9, 2) := by decide +kernel
theorem dX5_counted_2 : decode cX5_counted 2 = .ok (.newarray .int, 2) := by decide +kernel
theorem dX5_counted_4 : decode cX5_counted 4 = .ok (.dup, 1) := by decide +kernel
theorem dX5_counted_5 : decode cX5_counted 5 = .ok (.iconst 0, 1) := by decide +kernel
theorem dX5_counted_6 : decode cX5_counted 6 = .ok (.aload_n 0, 1) := by decide +kernel
theorem dX5_counted_7 : decode cX5_counted 7 = .ok (.getfield 38, 3) := by decide +kernel
theorem dX5_counted_10 : decode cX5_counted 10 = .ok (.getfield 91, 3) := by decide +kernel
theorem dX5_counted_13 : decode cX5_counted 13 = .ok (.iastore, 1) := by decide +kernel
theorem dX5_counted_14 : decode cX5_counted 14 = .ok (.dup, 1) := by decide +kernel
theorem dX5_counted_15 : decode cX5_counted 15 = .ok (.iconst 1, 1) := by decide +kernel
theorem dX5_counted_16 : decode cX5_counted 16 = .ok (.aload_n 0, 1) := by decide +kernel
theorem dX5_counted_17 : decode cX5_counted 17 = .ok (.getfield 38, 3) := by decide +kernel
theorem dX5_counted_20 : decode cX5_counted 20 = .ok (.getfield 91, 3) := by decide +kernel
theorem dX5_counted_23 : decode cX5_counted 23 = .ok (.bipush 7, 2) := by decide +kernel
theorem dX5_counted_25 : decode cX5_counted 25 = .ok (.irem, 1) := by decide +kernel
theorem dX5_counted_26 : decode cX5_counted 26 = .ok (.iastore, 1) := by decide +kernel
theorem dX5_counted_27 : decode cX5_counted 27 = .ok (.dup, 1) := by decide +kernel
theorem dX5_counted_28 : decode cX5_counted 28 = .ok (.iconst 2, 1) := by decide +kernel
theorem dX5_counted_29 : decode cX5_counted 29 = .ok (.aload_n 0, 1) := by decide +kernel
theorem dX5_counted_30 : decode cX5_counted 30 = .ok (.getfield 31, 3) := by decide +kernel
theorem dX5_counted_33 : decode cX5_counted 33 = .ok (.iastore, 1) := by decide +kernel
theorem dX5_counted_34 : decode cX5_counted 34 = .ok (.dup, 1) := by decide +kernel
theorem dX5_counted_35 : decode cX5_counted 35 = .ok (.iconst 3, 1) := by decide +kernel
theorem dX5_counted_36 : decode cX5_counted 36 = .ok (.aload_n 0, 1) := by decide +kernel
theorem dX5_counted_37 : decode cX5_counted 37 = .ok (.getfield 57, 3) := by decide +kernel
theorem dX5_counted_40 : decode cX5_counted 40 = .ok (.iastore, 1) := by decide +kernel
theorem dX5_counted_41 : decode cX5_counted 41 = .ok (.dup, 1) := by decide +kernel
theorem dX5_counted_42 : decode cX5_counted 42 = .ok (.iconst 4, 1) := by decide +kernel
theorem dX5_counted_43 : decode cX5_counted 43 = .ok (.aload_n 0, 1) := by decide +kernel
theorem dX5_counted_44 : decode cX5_counted 44 = .ok (.getfield 64, 3) := by decide +kernel
theorem dX5_counted_47 : decode cX5_counted 47 = .ok (.iastore, 1) := by decide +kernel
theorem dX5_counted_48 : decode cX5_counted 48 = .ok (.dup, 1) := by decide +kernel
theorem dX5_counted_49 : decode cX5_counted 49 = .ok (.iconst 5, 1) := by decide +kernel
theorem dX5_counted_50 : decode cX5_counted 50 = .ok (.aload_n 0, 1) := by decide +kernel
theorem dX5_counted_51 : decode cX5_counted 51 = .ok (.getfield 38, 3) := by decide +kernel
theorem dX5_counted_54 : decode cX5_counted 54 = .ok (.invokevirtual 119, 3) := by decide +kernel
theorem dX5_counted_57 : decode cX5_counted 57 = .ok (.iastore, 1) := by decide +kernel
theorem dX5_counted_58 : decode cX5_counted 58 = .ok (.dup, 1) := by decide +kernel
theorem dX5_counted_59 : decode cX5_counted 59 = .ok (.bipush 6, 2) := by decide +kernel
theorem dX5_counted_61 : decode cX5_counted 61 = .ok (.aload_n 0, 1) := by decide +kernel
theorem dX5_counted_62 : decode cX5_counted 62 = .ok (.getfield 38, 3) := by decide +kernel
theorem dX5_counted_65 : decode cX5_counted 65 = .ok (.invokevirtual 135, 3) := by decide +kernel
theorem dX5_counted_68 : decode cX5_counted 68 = .ok (.iastore, 1) := by decide +kernel
theorem dX5_counted_69 : decode cX5_counted 69 = .ok (.dup, 1) := by decide +kernel
theorem dX5_counted_70 : decode cX5_counted 70 = .ok (.bipush 7, 2) := by decide +kernel
theorem dX5_counted_72 : decode cX5_counted 72 = .ok (.aload_n 0, 1) := by decide +kernel
theorem dX5_counted_73 : decode cX5_counted 73 = .ok (.getfield 38, 3) := by decide +kernel
theorem dX5_counted_76 : decode cX5_counted 76 = .ok (.invokevirtual 138, 3) := by decide +kernel
theorem dX5_counted_79 : decode cX5_counted 79 = .ok (.iastore, 1) := by decide +kernel
theorem dX5_counted_80 : decode cX5_counted 80 = .ok (.dup, 1) := by decide +kernel
theorem dX5_counted_81 : decode cX5_counted 81 = .ok (.bipush 8, 2) := by decide +kernel
theorem dX5_counted_83 : decode cX5_counted 83 = .ok (.aload_n 0, 1) := by decide +kernel
theorem dX5_counted_84 : decode cX5_counted 84 = .ok (.getfield 101, 3) := by decide +kernel
theorem dX5_counted_87 : decode cX5_counted 87 = .ok (.iastore, 1) := by decide +kernel
theorem dX5_counted_88 : decode cX5_counted 88 = .ok (.astore_n 2, 1) := by decide +kernel
theorem dX5_counted_89 : decode cX5_counted 89 = .ok (.aload_n 2, 1) := by decide +kernel
theorem dX5_counted_90 : decode cX5_counted 90 = .ok (.iload_n 1, 1) := by decide +kernel
theorem dX5_counted_91 : decode cX5_counted 91 = .ok (.iaload, 1) := by decide +kernel
theorem dX5_counted_92 : decode cX5_counted 92 = .ok (.ireturn, 1) := by decide +kernel
theorem dX5_count_0 : decode cX5_count 0 = .ok (.aload_n 0, 1) := by decide +kernel
theorem dX5_count_1 : decode cX5_count 1 = .ok (.iconst 0, 1) := by decide +kernel
theorem dX5_count_2 : decode cX5_count 2 = .ok (.putfield 45, 3) := by decide +kernel
theorem dX5_count_5 : decode cX5_count 5 = .ok (.iload_n 1, 1) := by decide +kernel
theorem dX5_count_6 : decode cX5_count 6 = .ok (.iconst 0, 1) := by decide +kernel
theorem dX5_count_7 : decode cX5_count 7 = .ok (.bipush 8, 2) := by decide +kernel
theorem dX5_count_9 : decode cX5_count 9 = .ok (.invokestatic 60, 3) := by decide +kernel
theorem dX5_count_12 : decode cX5_count 12 = .ok (.ifCond .eq 11, 3) := by decide +kernel
theorem dX5_count_15 : decode cX5_count 15 = .ok (.aload_n 0, 1) := by decide +kernel
theorem dX5_count_16 : decode cX5_count 16 = .ok (.iload_n 1, 1) := by decide +kernel
theorem dX5_count_17 : decode cX5_count 17 = .ok (.invokevirtual 141, 3) := by decide +kernel
theorem dX5_count_20 : decode cX5_count 20 = .ok (.goto 8, 3) := by decide +kernel
theorem dX5_count_23 : decode cX5_count 23 = .ok (.aload_n 0, 1) := by decide +kernel
theorem dX5_count_24 : decode cX5_count 24 = .ok (.iconst 1, 1) := by decide +kernel
theorem dX5_count_25 : decode cX5_count 25 = .ok (.invokevirtual 67, 3) := by decide +kernel
theorem dX5_count_28 : decode cX5_count 28 = .ok (.ireturn, 1) := by decide +kernel
theorem dX5_rest_0 : decode cX5_rest 0 = .ok (.aload_n 0, 1) := by decide +kernel
theorem dX5_rest_1 : decode cX5_rest 1 = .ok (.iconst 0, 1) := by decide +kernel
theorem dX5_rest_2 : decode cX5_rest 2 = .ok (.putfield 45, 3) := by decide +kernel
theorem dX5_rest_5 : decode cX5_rest 5 = .ok (.iload_n 1, 1) := by decide +kernel
theorem dX5_rest_6 : decode cX5_rest 6 = .ok (.iconst 1, 1) := by decide +kernel
theorem dX5_rest_7 : decode cX5_rest 7 = .ok (.bipush 60, 2) := by decide +kernel
theorem dX5_rest_9 : decode cX5_rest 9 = .ok (.invokestatic 60, 3) := by decide +kernel
theorem dX5_rest_12 : decode cX5_rest 12 = .ok (.ifCond .ne 9, 3) := by decide +kernel
theorem dX5_rest_15 : decode cX5_rest 15 = .ok (.aload_n 0, 1) := by decide +kernel
theorem dX5_rest_16 : decode cX5_rest 16 = .ok (.iconst 1, 1) := by decide +kernel
theorem dX5_rest_17 : decode cX5_rest 17 = .ok (.invokevirtual 67, 3) := by decide +kernel
theorem dX5_rest_20 : decode cX5_rest 20 = .ok (.ireturn, 1) := by decide +kernel
theorem dX5_rest_21 : decode cX5_rest 21 = .ok (.iconst 0, 1) := by decide +kernel
theorem dX5_rest_22 : decode cX5_rest 22 = .ok (.istore_n 2, 1) := by decide +kernel
theorem dX5_rest_23 : decode cX5_rest 23 = .ok (.iconst 0, 1) := by decide +kernel
theorem dX5_rest_24 : decode cX5_rest 24 = .ok (.istore_n 3, 1) := by decide +kernel
theorem dX5_rest_25 : decode cX5_rest 25 = .ok (.iload_n 3, 1) := by decide +kernel
theorem dX5_rest_26 : decode cX5_rest 26 = .ok (.iload_n 1, 1) := by decide +kernel
theorem dX5_rest_27 : decode cX5_rest 27 = .ok (.if_icmp .ge 34, 3) := by decide +kernel
theorem dX5_rest_30 : decode cX5_rest 30 = .ok (.iload_n 2, 1) := by decide +kernel
theorem dX5_rest_31 : decode cX5_rest 31 = .ok (.aload_n 0, 1) := by decide +kernel
theorem dX5_rest_32 : decode cX5_rest 32 = .ok (.getfield 38, 3) := by decide +kernel
theorem dX5_rest_35 : decode cX5_rest 35 = .ok (.aload_n 0, 1) := by decide +kernel
theorem dX5_rest_36 : decode cX5_rest 36 = .ok (.getfield 28, 3) := by decide +kernel
theorem dX5_rest_39 : decode cX5_rest 39 = .ok (.aload_n 0, 1) := by decide +kernel
theorem dX5_rest_40 : decode cX5_rest 40 = .ok (.getfield 38, 3) := by decide +kernel
theorem dX5_rest_43 : decode cX5_rest 43 = .ok (.getfield 91, 3) := by decide +kernel
theorem dX5_rest_46 : decode cX5_rest 46 = .ok (.bipush 7, 2) := by decide +kernel
theorem dX5_rest_48 : decode cX5_rest 48 = .ok (.irem, 1) := by decide +kernel
theorem dX5_rest_49 : decode cX5_rest 49 = .ok (.iaload, 1) := by decide +kernel
theorem dX5_rest_50 : decode cX5_rest 50 = .ok (.invokevirtual 144, 3) := by decide +kernel
theorem dX5_rest_53 : decode cX5_rest 53 = .ok (.iadd, 1) := by decide +kernel
theorem dX5_rest_54 : decode cX5_rest 54 = .ok (.istore_n 2, 1) := by decide +kernel
theorem dX5_rest_55 : decode cX5_rest 55 = .ok (.iinc 3 1, 3) := by decide +kernel
theorem dX5_rest_58 : decode cX5_rest 58 = .ok (.goto (-33), 3) := by decide +kernel
theorem dX5_rest_61 : decode cX5_rest 61 = .ok (.aload_n 0, 1) := by decide +kernel
theorem dX5_rest_62 : decode cX5_rest 62 = .ok (.getfield 25, 3) := by decide +kernel
theorem dX5_rest_65 : decode cX5_rest 65 = .ok (.iconst 0, 1) := by decide +kernel
theorem dX5_rest_66 : decode cX5_rest 66 = .ok (.invokestatic 147, 3) := by decide +kernel
theorem dX5_rest_69 : decode cX5_rest 69 = .ok (.iload_n 2, 1) := by decide +kernel
theorem dX5_rest_70 : decode cX5_rest 70 = .ok (.ireturn, 1) := by decide +kernel
theorem dX5_pays_0 : decode cX5_pays 0 = .ok (.aload_n 0, 1) := by decide +kernel
theorem dX5_pays_1 : decode cX5_pays 1 = .ok (.iconst 0, 1) := by decide +kernel
theorem dX5_pays_2 : decode cX5_pays 2 = .ok (.putfield 45, 3) := by decide +kernel
theorem dX5_pays_5 : decode cX5_pays 5 = .ok (.aload_n 0, 1) := by decide +kernel
theorem dX5_pays_6 : decode cX5_pays 6 = .ok (.iload_n 1, 1) := by decide +kernel
theorem dX5_pays_7 : decode cX5_pays 7 = .ok (.invokevirtual 81, 3) := by decide +kernel
theorem dX5_pays_10 : decode cX5_pays 10 = .ok (.ifCond .eq 20, 3) := by decide +kernel
theorem dX5_pays_13 : decode cX5_pays 13 = .ok (.aload_n 0, 1) := by decide +kernel
theorem dX5_pays_14 : decode cX5_pays 14 = .ok (.iload_n 2, 1) := by decide +kernel
theorem dX5_pays_15 : decode cX5_pays 15 = .ok (.invokevirtual 71, 3) := by decide +kernel
theorem dX5_pays_18 : decode cX5_pays 18 = .ok (.ifCond .eq 12, 3) := by decide +kernel
theorem dX5_pays_21 : decode cX5_pays 21 = .ok (.aload_n 0, 1) := by decide +kernel
theorem dX5_pays_22 : decode cX5_pays 22 = .ok (.iload_n 1, 1) := by decide +kernel
theorem dX5_pays_23 : decode cX5_pays 23 = .ok (.iload_n 2, 1) := by decide +kernel
theorem dX5_pays_24 : decode cX5_pays 24 = .ok (.invokevirtual 104, 3) := by decide +kernel
theorem dX5_pays_27 : decode cX5_pays 27 = .ok (.goto 8, 3) := by decide +kernel
theorem dX5_pays_30 : decode cX5_pays 30 = .ok (.aload_n 0, 1) := by decide +kernel
theorem dX5_pays_31 : decode cX5_pays 31 = .ok (.iconst 1, 1) := by decide +kernel
theorem dX5_pays_32 : decode cX5_pays 32 = .ok (.invokevirtual 67, 3) := by decide +kernel
theorem dX5_pays_35 : decode cX5_pays 35 = .ok (.ireturn, 1) := by decide +kernel
theorem dX5_best_0 : decode cX5_best 0 = .ok (.aload_n 0, 1) := by decide +kernel
theorem dX5_best_1 : decode cX5_best 1 = .ok (.iconst 0, 1) := by decide +kernel
theorem dX5_best_2 : decode cX5_best 2 = .ok (.putfield 45, 3) := by decide +kernel
theorem dX5_best_5 : decode cX5_best 5 = .ok (.aload_n 0, 1) := by decide +kernel
theorem dX5_best_6 : decode cX5_best 6 = .ok (.iload_n 1, 1) := by decide +kernel
theorem dX5_best_7 : decode cX5_best 7 = .ok (.invokevirtual 81, 3) := by decide +kernel
theorem dX5_best_10 : decode cX5_best 10 = .ok (.ifCond .ne 9, 3) := by decide +kernel
theorem dX5_best_13 : decode cX5_best 13 = .ok (.aload_n 0, 1) := by decide +kernel
theorem dX5_best_14 : decode cX5_best 14 = .ok (.iconst 1, 1) := by decide +kernel
theorem dX5_best_15 : decode cX5_best 15 = .ok (.invokevirtual 67, 3) := by decide +kernel
theorem dX5_best_18 : decode cX5_best 18 = .ok (.ireturn, 1) := by decide +kernel
theorem dX5_best_19 : decode cX5_best 19 = .ok (.iconst (-1), 1) := by decide +kernel
theorem dX5_best_20 : decode cX5_best 20 = .ok (.istore_n 2, 1) := by decide +kernel
theorem dX5_best_21 : decode cX5_best 21 = .ok (.iconst 0, 1) := by decide +kernel
theorem dX5_best_22 : decode cX5_best 22 = .ok (.istore_n 3, 1) := by decide +kernel
theorem dX5_best_23 : decode cX5_best 23 = .ok (.iconst 0, 1) := by decide +kernel
theorem dX5_best_24 : decode cX5_best 24 = .ok (.istore 4, 2) := by decide +kernel
theorem dX5_best_26 : decode cX5_best 26 = .ok (.iload 4, 2) := by decide +kernel
theorem dX5_best_28 : decode cX5_best 28 = .ok (.aload_n 0, 1) := by decide +kernel
theorem dX5_best_29 : decode cX5_best 29 = .ok (.getfield 57, 3) := by decide +kernel
theorem dX5_best_32 : decode cX5_best 32 = .ok (.if_icmp .ge 33, 3) := by decide +kernel
theorem dX5_best_35 : decode cX5_best 35 = .ok (.aload_n 0, 1) := by decide +kernel
theorem dX5_best_36 : decode cX5_best 36 = .ok (.iload_n 1, 1) := by decide +kernel
theorem dX5_best_37 : decode cX5_best 37 = .ok (.iload 4, 2) := by decide +kernel
theorem dX5_best_39 : decode cX5_best 39 = .ok (.invokevirtual 104, 3) := by decide +kernel
theorem dX5_best_42 : decode cX5_best 42 = .ok (.istore 5, 2) := by decide +kernel
theorem dX5_best_44 : decode cX5_best 44 = .ok (.iload 5, 2) := by decide +kernel
theorem dX5_best_46 : decode cX5_best 46 = .ok (.iload_n 3, 1) := by decide +kernel
theorem dX5_best_47 : decode cX5_best 47 = .ok (.if_icmp .gt 6, 3) := by decide +kernel
theorem dX5_best_50 : decode cX5_best 50 = .ok (.goto 9, 3) := by decide +kernel
theorem dX5_best_53 : decode cX5_best 53 = .ok (.iload 5, 2) := by decide +kernel
theorem dX5_best_55 : decode cX5_best 55 = .ok (.istore_n 3, 1) := by decide +kernel
theorem dX5_best_56 : decode cX5_best 56 = .ok (.iload 4, 2) := by decide +kernel
theorem dX5_best_58 : decode cX5_best 58 = .ok (.istore_n 2, 1) := by decide +kernel
theorem dX5_best_59 : decode cX5_best 59 = .ok (.iinc 4 1, 3) := by decide +kernel
theorem dX5_best_62 : decode cX5_best 62 = .ok (.goto (-36), 3) := by decide +kernel
theorem dX5_best_65 : decode cX5_best 65 = .ok (.iload_n 2, 1) := by decide +kernel
theorem dX5_best_66 : decode cX5_best 66 = .ok (.ireturn, 1) := by decide +kernel
theorem dX5_worst_0 : decode cX5_worst 0 = .ok (.aload_n 0, 1) := by decide +kernel
theorem dX5_worst_1 : decode cX5_worst 1 = .ok (.iconst 0, 1) := by decide +kernel
theorem dX5_worst_2 : decode cX5_worst 2 = .ok (.putfield 45, 3) := by decide +kernel
theorem dX5_worst_5 : decode cX5_worst 5 = .ok (.aload_n 0, 1) := by decide +kernel
theorem dX5_worst_6 : decode cX5_worst 6 = .ok (.iload_n 1, 1) := by decide +kernel
theorem dX5_worst_7 : decode cX5_worst 7 = .ok (.invokevirtual 71, 3) := by decide +kernel
theorem dX5_worst_10 : decode cX5_worst 10 = .ok (.ifCond .ne 9, 3) := by decide +kernel
theorem dX5_worst_13 : decode cX5_worst 13 = .ok (.aload_n 0, 1) := by decide +kernel
theorem dX5_worst_14 : decode cX5_worst 14 = .ok (.iconst 1, 1) := by decide +kernel
theorem dX5_worst_15 : decode cX5_worst 15 = .ok (.invokevirtual 67, 3) := by decide +kernel
theorem dX5_worst_18 : decode cX5_worst 18 = .ok (.ireturn, 1) := by decide +kernel
theorem dX5_worst_19 : decode cX5_worst 19 = .ok (.iconst (-1), 1) := by decide +kernel
theorem dX5_worst_20 : decode cX5_worst 20 = .ok (.istore_n 2, 1) := by decide +kernel
theorem dX5_worst_21 : decode cX5_worst 21 = .ok (.aload_n 0, 1) := by decide +kernel
theorem dX5_worst_22 : decode cX5_worst 22 = .ok (.iload_n 1, 1) := by decide +kernel
theorem dX5_worst_23 : decode cX5_worst 23 = .ok (.aload_n 0, 1) := by decide +kernel
theorem dX5_worst_24 : decode cX5_worst 24 = .ok (.getfield 38, 3) := by decide +kernel
theorem dX5_worst_27 : decode cX5_worst 27 = .ok (.iconst (-1), 1) := by decide +kernel
theorem dX5_worst_28 : decode cX5_worst 28 = .ok (.invokevirtual 87, 3) := by decide +kernel
theorem dX5_worst_31 : decode cX5_worst 31 = .ok (.istore_n 3, 1) := by decide +kernel
theorem dX5_worst_32 : decode cX5_worst 32 = .ok (.iconst 0, 1) := by decide +kernel
theorem dX5_worst_33 : decode cX5_worst 33 = .ok (.istore 4, 2) := by decide +kernel
theorem dX5_worst_35 : decode cX5_worst 35 = .ok (.iload 4, 2) := by decide +kernel
theorem dX5_worst_37 : decode cX5_worst 37 = .ok (.bipush 12, 2) := by decide +kernel
theorem dX5_worst_39 : decode cX5_worst 39 = .ok (.if_icmp .ge 37, 3) := by decide +kernel
theorem dX5_worst_42 : decode cX5_worst 42 = .ok (.aload_n 0, 1) := by decide +kernel
theorem dX5_worst_43 : decode cX5_worst 43 = .ok (.iload_n 1, 1) := by decide +kernel
theorem dX5_worst_44 : decode cX5_worst 44 = .ok (.aload_n 0, 1) := by decide +kernel
theorem dX5_worst_45 : decode cX5_worst 45 = .ok (.getfield 38, 3) := by decide +kernel
theorem dX5_worst_48 : decode cX5_worst 48 = .ok (.iload 4, 2) := by decide +kernel
theorem dX5_worst_50 : decode cX5_worst 50 = .ok (.invokevirtual 87, 3) := by decide +kernel
theorem dX5_worst_53 : decode cX5_worst 53 = .ok (.istore 5, 2) := by decide +kernel
theorem dX5_worst_55 : decode cX5_worst 55 = .ok (.iload 5, 2) := by decide +kernel
theorem dX5_worst_57 : decode cX5_worst 57 = .ok (.iload_n 3, 1) := by decide +kernel
theorem dX5_worst_58 : decode cX5_worst 58 = .ok (.if_icmp .gt 6, 3) := by decide +kernel
theorem dX5_worst_61 : decode cX5_worst 61 = .ok (.goto 9, 3) := by decide +kernel
theorem dX5_worst_64 : decode cX5_worst 64 = .ok (.iload 5, 2) := by decide +kernel
theorem dX5_worst_66 : decode cX5_worst 66 = .ok (.istore_n 3, 1) := by decide +kernel
theorem dX5_worst_67 : decode cX5_worst 67 = .ok (.iload 4, 2) := by decide +kernel
theorem dX5_worst_69 : decode cX5_worst 69 = .ok (.istore_n 2, 1) := by decide +kernel
theorem dX5_worst_70 : decode cX5_worst 70 = .ok (.iinc 4 1, 3) := by decide +kernel
theorem dX5_worst_73 : decode cX5_worst 73 = .ok (.goto (-38), 3) := by decide +kernel
theorem dX5_worst_76 : decode cX5_worst 76 = .ok (.iload_n 2, 1) := by decide +kernel
theorem dX5_worst_77 : decode cX5_worst 77 = .ok (.ireturn, 1) := by decide +kernel
theorem dX5_foresee_0 : decode cX5_foresee 0 = .ok (.aload_n 0, 1) := by decide +kernel
theorem dX5_foresee_1 : decode cX5_foresee 1 = .ok (.iconst 0, 1) := by decide +kernel
theorem dX5_foresee_2 : decode cX5_foresee 2 = .ok (.putfield 45, 3) := by decide +kernel
theorem dX5_foresee_5 : decode cX5_foresee 5 = .ok (.iload_n 1, 1) := by decide +kernel
theorem dX5_foresee_6 : decode cX5_foresee 6 = .ok (.iconst 1, 1) := by decide +kernel
theorem dX5_foresee_7 : decode cX5_foresee 7 = .ok (.bipush 60, 2) := by decide +kernel
theorem dX5_foresee_9 : decode cX5_foresee 9 = .ok (.invokestatic 60, 3) := by decide +kernel
theorem dX5_foresee_12 : decode cX5_foresee 12 = .ok (.ifCond .ne 9, 3) := by decide +kernel
theorem dX5_foresee_15 : decode cX5_foresee 15 = .ok (.aload_n 0, 1) := by decide +kernel
theorem dX5_foresee_16 : decode cX5_foresee 16 = .ok (.iconst 1, 1) := by decide +kernel
theorem dX5_foresee_17 : decode cX5_foresee 17 = .ok (.invokevirtual 67, 3) := by decide +kernel
theorem dX5_foresee_20 : decode cX5_foresee 20 = .ok (.ireturn, 1) := by decide +kernel
theorem dX5_foresee_21 : decode cX5_foresee 21 = .ok (.iload_n 2, 1) := by decide +kernel
theorem dX5_foresee_22 : decode cX5_foresee 22 = .ok (.iconst 5, 1) := by decide +kernel
theorem dX5_foresee_23 : decode cX5_foresee 23 = .ok (.bipush 7, 2) := by decide +kernel
theorem dX5_foresee_25 : decode cX5_foresee 25 = .ok (.invokestatic 60, 3) := by decide +kernel
theorem dX5_foresee_28 : decode cX5_foresee 28 = .ok (.ifCond .ne 9, 3) := by decide +kernel
theorem dX5_foresee_31 : decode cX5_foresee 31 = .ok (.aload_n 0, 1) := by decide +kernel
theorem dX5_foresee_32 : decode cX5_foresee 32 = .ok (.iconst 2, 1) := by decide +kernel
theorem dX5_foresee_33 : decode cX5_foresee 33 = .ok (.invokevirtual 67, 3) := by decide +kernel
theorem dX5_foresee_36 : decode cX5_foresee 36 = .ok (.ireturn, 1) := by decide +kernel
theorem dX5_foresee_37 : decode cX5_foresee 37 = .ok (.aload_n 0, 1) := by decide +kernel
theorem dX5_foresee_38 : decode cX5_foresee 38 = .ok (.getfield 42, 3) := by decide +kernel
theorem dX5_foresee_41 : decode cX5_foresee 41 = .ok (.aload_n 0, 1) := by decide +kernel
theorem dX5_foresee_42 : decode cX5_foresee 42 = .ok (.getfield 38, 3) := by decide +kernel
theorem dX5_foresee_45 : decode cX5_foresee 45 = .ok (.invokevirtual 153, 3) := by decide +kernel
theorem dX5_foresee_48 : decode cX5_foresee 48 = .ok (.iconst 0, 1) := by decide +kernel
theorem dX5_foresee_49 : decode cX5_foresee 49 = .ok (.istore_n 3, 1) := by decide +kernel
theorem dX5_foresee_50 : decode cX5_foresee 50 = .ok (.iload_n 3, 1) := by decide +kernel
theorem dX5_foresee_51 : decode cX5_foresee 51 = .ok (.iload_n 1, 1) := by decide +kernel
theorem dX5_foresee_52 : decode cX5_foresee 52 = .ok (.if_icmp .ge 32, 3) := by decide +kernel
theorem dX5_foresee_55 : decode cX5_foresee 55 = .ok (.aload_n 0, 1) := by decide +kernel
theorem dX5_foresee_56 : decode cX5_foresee 56 = .ok (.getfield 42, 3) := by decide +kernel
theorem dX5_foresee_59 : decode cX5_foresee 59 = .ok (.aload_n 0, 1) := by decide +kernel
theorem dX5_foresee_60 : decode cX5_foresee 60 = .ok (.getfield 28, 3) := by decide +kernel
theorem dX5_foresee_63 : decode cX5_foresee 63 = .ok (.aload_n 0, 1) := by decide +kernel
theorem dX5_foresee_64 : decode cX5_foresee 64 = .ok (.getfield 42, 3) := by decide +kernel
theorem dX5_foresee_67 : decode cX5_foresee 67 = .ok (.getfield 91, 3) := by decide +kernel
theorem dX5_foresee_70 : decode cX5_foresee 70 = .ok (.bipush 7, 2) := by decide +kernel
theorem dX5_foresee_72 : decode cX5_foresee 72 = .ok (.irem, 1) := by decide +kernel
theorem dX5_foresee_73 : decode cX5_foresee 73 = .ok (.iaload, 1) := by decide +kernel
theorem dX5_foresee_74 : decode cX5_foresee 74 = .ok (.invokevirtual 144, 3) := by decide +kernel
theorem dX5_foresee_77 : decode cX5_foresee 77 = .ok (.pop, 1) := by decide +kernel
theorem dX5_foresee_78 : decode cX5_foresee 78 = .ok (.iinc 3 1, 3) := by decide +kernel
theorem dX5_foresee_81 : decode cX5_foresee 81 = .ok (.goto (-31), 3) := by decide +kernel
theorem dX5_foresee_84 : decode cX5_foresee 84 = .ok (.iload_n 2, 1) := by decide +kernel
theorem dX5_foresee_85 : decode cX5_foresee 85 = .ok (.iconst 5, 1) := by decide +kernel
theorem dX5_foresee_86 : decode cX5_foresee 86 = .ok (.if_icmp .ne 13, 3) := by decide +kernel
theorem dX5_foresee_89 : decode cX5_foresee 89 = .ok (.aload_n 0, 1) := by decide +kernel
theorem dX5_foresee_90 : decode cX5_foresee 90 = .ok (.getfield 42, 3) := by decide +kernel
theorem dX5_foresee_93 : decode cX5_foresee 93 = .ok (.invokevirtual 119, 3) := by decide +kernel
theorem dX5_foresee_96 : decode cX5_foresee 96 = .ok (.goto 26, 3) := by decide +kernel
theorem dX5_foresee_99 : decode cX5_foresee 99 = .ok (.iload_n 2, 1) := by decide +kernel
theorem dX5_foresee_100 : decode cX5_foresee 100 = .ok (.bipush 6, 2) := by decide +kernel
theorem dX5_foresee_102 : decode cX5_foresee 102 = .ok (.if_icmp .ne 13, 3) := by decide +kernel
theorem dX5_foresee_105 : decode cX5_foresee 105 = .ok (.aload_n 0, 1) := by decide +kernel
theorem dX5_foresee_106 : decode cX5_foresee 106 = .ok (.getfield 42, 3) := by decide +kernel
theorem dX5_foresee_109 : decode cX5_foresee 109 = .ok (.invokevirtual 135, 3) := by decide +kernel
theorem dX5_foresee_112 : decode cX5_foresee 112 = .ok (.goto 10, 3) := by decide +kernel
theorem dX5_foresee_115 : decode cX5_foresee 115 = .ok (.aload_n 0, 1) := by decide +kernel
theorem dX5_foresee_116 : decode cX5_foresee 116 = .ok (.getfield 42, 3) := by decide +kernel
theorem dX5_foresee_119 : decode cX5_foresee 119 = .ok (.invokevirtual 138, 3) := by decide +kernel
theorem dX5_foresee_122 : decode cX5_foresee 122 = .ok (.ireturn, 1) := by decide +kernel
theorem dX5_lasts_0 : decode cX5_lasts 0 = .ok (.aload_n 0, 1) := by decide +kernel
theorem dX5_lasts_1 : decode cX5_lasts 1 = .ok (.iconst 0, 1) := by decide +kernel
theorem dX5_lasts_2 : decode cX5_lasts 2 = .ok (.putfield 45, 3) := by decide +kernel
theorem dX5_lasts_5 : decode cX5_lasts 5 = .ok (.aload_n 0, 1) := by decide +kernel
theorem dX5_lasts_6 : decode cX5_lasts 6 = .ok (.iload_n 1, 1) := by decide +kernel
theorem dX5_lasts_7 : decode cX5_lasts 7 = .ok (.invokevirtual 71, 3) := by decide +kernel
theorem dX5_lasts_10 : decode cX5_lasts 10 = .ok (.ifCond .ne 9, 3) := by decide +kernel
theorem dX5_lasts_13 : decode cX5_lasts 13 = .ok (.aload_n 0, 1) := by decide +kernel
theorem dX5_lasts_14 : decode cX5_lasts 14 = .ok (.iconst 1, 1) := by decide +kernel
theorem dX5_lasts_15 : decode cX5_lasts 15 = .ok (.invokevirtual 67, 3) := by decide +kernel
theorem dX5_lasts_18 : decode cX5_lasts 18 = .ok (.ireturn, 1) := by decide +kernel
theorem dX5_lasts_19 : decode cX5_lasts 19 = .ok (.aload_n 0, 1) := by decide +kernel
theorem dX5_lasts_20 : decode cX5_lasts 20 = .ok (.getfield 42, 3) := by decide +kernel
theorem dX5_lasts_23 : decode cX5_lasts 23 = .ok (.aload_n 0, 1) := by decide +kernel
theorem dX5_lasts_24 : decode cX5_lasts 24 = .ok (.getfield 38, 3) := by decide +kernel
theorem dX5_lasts_27 : decode cX5_lasts 27 = .ok (.invokevirtual 153, 3) := by decide +kernel
theorem dX5_lasts_30 : decode cX5_lasts 30 = .ok (.iconst 0, 1) := by decide +kernel
theorem dX5_lasts_31 : decode cX5_lasts 31 = .ok (.istore_n 2, 1) := by decide +kernel
theorem dX5_lasts_32 : decode cX5_lasts 32 = .ok (.iload_n 2, 1) := by decide +kernel
theorem dX5_lasts_33 : decode cX5_lasts 33 = .ok (.bipush 99, 2) := by decide +kernel
theorem dX5_lasts_35 : decode cX5_lasts 35 = .ok (.if_icmp .ge 33, 3) := by decide +kernel
theorem dX5_lasts_38 : decode cX5_lasts 38 = .ok (.aload_n 0, 1) := by decide +kernel
theorem dX5_lasts_39 : decode cX5_lasts 39 = .ok (.iload_n 1, 1) := by decide +kernel
theorem dX5_lasts_40 : decode cX5_lasts 40 = .ok (.aload_n 0, 1) := by decide +kernel
theorem dX5_lasts_41 : decode cX5_lasts 41 = .ok (.getfield 42, 3) := by decide +kernel
theorem dX5_lasts_44 : decode cX5_lasts 44 = .ok (.iconst (-1), 1) := by decide +kernel
theorem dX5_lasts_45 : decode cX5_lasts 45 = .ok (.invokevirtual 87, 3) := by decide +kernel
theorem dX5_lasts_48 : decode cX5_lasts 48 = .ok (.bipush 30, 2) := by decide +kernel
theorem dX5_lasts_50 : decode cX5_lasts 50 = .ok (.if_icmp .lt 18, 3) := by decide +kernel
theorem dX5_lasts_53 : decode cX5_lasts 53 = .ok (.aload_n 0, 1) := by decide +kernel
theorem dX5_lasts_54 : decode cX5_lasts 54 = .ok (.iload_n 1, 1) := by decide +kernel
theorem dX5_lasts_55 : decode cX5_lasts 55 = .ok (.aload_n 0, 1) := by decide +kernel
theorem dX5_lasts_56 : decode cX5_lasts 56 = .ok (.getfield 42, 3) := by decide +kernel
theorem dX5_lasts_59 : decode cX5_lasts 59 = .ok (.invokevirtual 107, 3) := by decide +kernel
theorem dX5_lasts_62 : decode cX5_lasts 62 = .ok (.iinc 2 1, 3) := by decide +kernel
theorem dX5_lasts_65 : decode cX5_lasts 65 = .ok (.goto (-33), 3) := by decide +kernel
theorem dX5_lasts_68 : decode cX5_lasts 68 = .ok (.iload_n 2, 1) := by decide +kernel
theorem dX5_lasts_69 : decode cX5_lasts 69 = .ok (.ireturn, 1) := by decide +kernel
theorem dX5_mean_0 : decode cX5_mean 0 = .ok (.aload_n 0, 1) := by decide +kernel
theorem dX5_mean_1 : decode cX5_mean 1 = .ok (.iconst 0, 1) := by decide +kernel
theorem dX5_mean_2 : decode cX5_mean 2 = .ok (.putfield 45, 3) := by decide +kernel
theorem dX5_mean_5 : decode cX5_mean 5 = .ok (.iconst 0, 1) := by decide +kernel
theorem dX5_mean_6 : decode cX5_mean 6 = .ok (.istore_n 1, 1) := by decide +kernel
theorem dX5_mean_7 : decode cX5_mean 7 = .ok (.iconst 0, 1) := by decide +kernel
theorem dX5_mean_8 : decode cX5_mean 8 = .ok (.istore_n 2, 1) := by decide +kernel
theorem dX5_mean_9 : decode cX5_mean 9 = .ok (.iload_n 2, 1) := by decide +kernel
theorem dX5_mean_10 : decode cX5_mean 10 = .ok (.aload_n 0, 1) := by decide +kernel
theorem dX5_mean_11 : decode cX5_mean 11 = .ok (.getfield 57, 3) := by decide +kernel
theorem dX5_mean_14 : decode cX5_mean 14 = .ok (.if_icmp .ge 22, 3) := by decide +kernel
theorem dX5_mean_17 : decode cX5_mean 17 = .ok (.iload_n 1, 1) := by decide +kernel
theorem dX5_mean_18 : decode cX5_mean 18 = .ok (.aload_n 0, 1) := by decide +kernel
theorem dX5_mean_19 : decode cX5_mean 19 = .ok (.iload_n 2, 1) := by decide +kernel
theorem dX5_mean_20 : decode cX5_mean 20 = .ok (.aload_n 0, 1) := by decide +kernel
theorem dX5_mean_21 : decode cX5_mean 21 = .ok (.getfield 38, 3) := by decide +kernel
theorem dX5_mean_24 : decode cX5_mean 24 = .ok (.iconst (-1), 1) := by decide +kernel
theorem dX5_mean_25 : decode cX5_mean 25 = .ok (.invokevirtual 87, 3) := by decide +kernel
theorem dX5_mean_28 : decode cX5_mean 28 = .ok (.iadd, 1) := by decide +kernel
theorem dX5_mean_29 : decode cX5_mean 29 = .ok (.istore_n 1, 1) := by decide +kernel
theorem dX5_mean_30 : decode cX5_mean 30 = .ok (.iinc 2 1, 3) := by decide +kernel
theorem dX5_mean_33 : decode cX5_mean 33 = .ok (.goto (-24), 3) := by decide +kernel
theorem dX5_mean_36 : decode cX5_mean 36 = .ok (.aload_n 0, 1) := by decide +kernel
theorem dX5_mean_37 : decode cX5_mean 37 = .ok (.getfield 57, 3) := by decide +kernel
theorem dX5_mean_40 : decode cX5_mean 40 = .ok (.ifCond .ne 7, 3) := by decide +kernel
theorem dX5_mean_43 : decode cX5_mean 43 = .ok (.dconst 0, 1) := by decide +kernel
theorem dX5_mean_44 : decode cX5_mean 44 = .ok (.goto 11, 3) := by decide +kernel
theorem dX5_mean_47 : decode cX5_mean 47 = .ok (.iload_n 1, 1) := by decide +kernel
theorem dX5_mean_48 : decode cX5_mean 48 = .ok (.i2d, 1) := by decide +kernel
theorem dX5_mean_49 : decode cX5_mean 49 = .ok (.aload_n 0, 1) := by decide +kernel
theorem dX5_mean_50 : decode cX5_mean 50 = .ok (.getfield 57, 3) := by decide +kernel
theorem dX5_mean_53 : decode cX5_mean 53 = .ok (.i2d, 1) := by decide +kernel
theorem dX5_mean_54 : decode cX5_mean 54 = .ok (.ddiv, 1) := by decide +kernel
theorem dX5_mean_55 : decode cX5_mean 55 = .ok (.dreturn, 1) := by decide +kernel
theorem dX5_digest_0 : decode cX5_digest 0 = .ok (.aload_n 0, 1) := by decide +kernel
theorem dX5_digest_1 : decode cX5_digest 1 = .ok (.iconst 0, 1) := by decide +kernel
theorem dX5_digest_2 : decode cX5_digest 2 = .ok (.putfield 45, 3) := by decide +kernel
theorem dX5_digest_5 : decode cX5_digest 5 = .ok (.ldc2_w 157, 3) := by decide +kernel
theorem dX5_digest_8 : decode cX5_digest 8 = .ok (.lstore_n 1, 1) := by decide +kernel
theorem dX5_digest_9 : decode cX5_digest 9 = .ok (.iconst 0, 1) := by decide +kernel
theorem dX5_digest_10 : decode cX5_digest 10 = .ok (.istore_n 3, 1) := by decide +kernel
theorem dX5_digest_11 : decode cX5_digest 11 = .ok (.iload_n 3, 1) := by decide +kernel
theorem dX5_digest_12 : decode cX5_digest 12 = .ok (.bipush 9, 2) := by decide +kernel
theorem dX5_digest_14 : decode cX5_digest 14 = .ok (.if_icmp .ge 22, 3) := by decide +kernel
theorem dX5_digest_17 : decode cX5_digest 17 = .ok (.lload_n 1, 1) := by decide +kernel
theorem dX5_digest_18 : decode cX5_digest 18 = .ok (.ldc2_w 159, 3) := by decide +kernel
theorem dX5_digest_21 : decode cX5_digest 21 = .ok (.lmul, 1) := by decide +kernel
theorem dX5_digest_22 : decode cX5_digest 22 = .ok (.aload_n 0, 1) := by decide +kernel
theorem dX5_digest_23 : decode cX5_digest 23 = .ok (.iload_n 3, 1) := by decide +kernel
theorem dX5_digest_24 : decode cX5_digest 24 = .ok (.invokevirtual 141, 3) := by decide +kernel
theorem dX5_digest_27 : decode cX5_digest 27 = .ok (.i2l, 1) := by decide +kernel
theorem dX5_digest_28 : decode cX5_digest 28 = .ok (.ladd, 1) := by decide +kernel
theorem dX5_digest_29 : decode cX5_digest 29 = .ok (.lstore_n 1, 1) := by decide +kernel
theorem dX5_digest_30 : decode cX5_digest 30 = .ok (.iinc 3 1, 3) := by decide +kernel
theorem dX5_digest_33 : decode cX5_digest 33 = .ok (.goto (-22), 3) := by decide +kernel
theorem dX5_digest_36 : decode cX5_digest 36 = .ok (.iconst 0, 1) := by decide +kernel
theorem dX5_digest_37 : decode cX5_digest 37 = .ok (.istore_n 3, 1) := by decide +kernel
theorem dX5_digest_38 : decode cX5_digest 38 = .ok (.iload_n 3, 1) := by decide +kernel
theorem dX5_digest_39 : decode cX5_digest 39 = .ok (.bipush 12, 2) := by decide +kernel
theorem dX5_digest_41 : decode cX5_digest 41 = .ok (.if_icmp .ge 39, 3) := by decide +kernel
theorem dX5_digest_44 : decode cX5_digest 44 = .ok (.iconst 0, 1) := by decide +kernel
theorem dX5_digest_45 : decode cX5_digest 45 = .ok (.istore 4, 2) := by decide +kernel
theorem dX5_digest_47 : decode cX5_digest 47 = .ok (.iload 4, 2) := by decide +kernel
theorem dX5_digest_49 : decode cX5_digest 49 = .ok (.iconst 5, 1) := by decide +kernel
theorem dX5_digest_50 : decode cX5_digest 50 = .ok (.if_icmp .ge 24, 3) := by decide +kernel
theorem dX5_digest_53 : decode cX5_digest 53 = .ok (.lload_n 1, 1) := by decide +kernel
theorem dX5_digest_54 : decode cX5_digest 54 = .ok (.ldc2_w 159, 3) := by decide +kernel
theorem dX5_digest_57 : decode cX5_digest 57 = .ok (.lmul, 1) := by decide +kernel
theorem dX5_digest_58 : decode cX5_digest 58 = .ok (.aload_n 0, 1) := by decide +kernel
theorem dX5_digest_59 : decode cX5_digest 59 = .ok (.iload_n 3, 1) := by decide +kernel
theorem dX5_digest_60 : decode cX5_digest 60 = .ok (.iload 4, 2) := by decide +kernel
theorem dX5_digest_62 : decode cX5_digest 62 = .ok (.invokevirtual 129, 3) := by decide +kernel
theorem dX5_digest_65 : decode cX5_digest 65 = .ok (.i2l, 1) := by decide +kernel
theorem dX5_digest_66 : decode cX5_digest 66 = .ok (.ladd, 1) := by decide +kernel
theorem dX5_digest_67 : decode cX5_digest 67 = .ok (.lstore_n 1, 1) := by decide +kernel
theorem dX5_digest_68 : decode cX5_digest 68 = .ok (.iinc 4 1, 3) := by decide +kernel
theorem dX5_digest_71 : decode cX5_digest 71 = .ok (.goto (-24), 3) := by decide +kernel
theorem dX5_digest_74 : decode cX5_digest 74 = .ok (.iinc 3 1, 3) := by decide +kernel
theorem dX5_digest_77 : decode cX5_digest 77 = .ok (.goto (-39), 3) := by decide +kernel
theorem dX5_digest_80 : decode cX5_digest 80 = .ok (.iconst 0, 1) := by decide +kernel
theorem dX5_digest_81 : decode cX5_digest 81 = .ok (.istore_n 3, 1) := by decide +kernel
theorem dX5_digest_82 : decode cX5_digest 82 = .ok (.iload_n 3, 1) := by decide +kernel
theorem dX5_digest_83 : decode cX5_digest 83 = .ok (.bipush 7, 2) := by decide +kernel
theorem dX5_digest_85 : decode cX5_digest 85 = .ok (.if_icmp .ge 23, 3) := by decide +kernel
theorem dX5_digest_88 : decode cX5_digest 88 = .ok (.lload_n 1, 1) := by decide +kernel
theorem dX5_digest_89 : decode cX5_digest 89 = .ok (.ldc2_w 159, 3) := by decide +kernel
theorem dX5_digest_92 : decode cX5_digest 92 = .ok (.lmul, 1) := by decide +kernel
theorem dX5_digest_93 : decode cX5_digest 93 = .ok (.aload_n 0, 1) := by decide +kernel
theorem dX5_digest_94 : decode cX5_digest 94 = .ok (.getfield 28, 3) := by decide +kernel
theorem dX5_digest_97 : decode cX5_digest 97 = .ok (.iload_n 3, 1) := by decide +kernel
theorem dX5_digest_98 : decode cX5_digest 98 = .ok (.iaload, 1) := by decide +kernel
theorem dX5_digest_99 : decode cX5_digest 99 = .ok (.i2l, 1) := by decide +kernel
theorem dX5_digest_100 : decode cX5_digest 100 = .ok (.ladd, 1) := by decide +kernel
theorem dX5_digest_101 : decode cX5_digest 101 = .ok (.lstore_n 1, 1) := by decide +kernel
theorem dX5_digest_102 : decode cX5_digest 102 = .ok (.iinc 3 1, 3) := by decide +kernel
theorem dX5_digest_105 : decode cX5_digest 105 = .ok (.goto (-23), 3) := by decide +kernel
theorem dX5_digest_108 : decode cX5_digest 108 = .ok (.iconst 0, 1) := by decide +kernel
theorem dX5_digest_109 : decode cX5_digest 109 = .ok (.istore_n 3, 1) := by decide +kernel
theorem dX5_digest_110 : decode cX5_digest 110 = .ok (.iload_n 3, 1) := by decide +kernel
theorem dX5_digest_111 : decode cX5_digest 111 = .ok (.aload_n 0, 1) := by decide +kernel
theorem dX5_digest_112 : decode cX5_digest 112 = .ok (.getfield 57, 3) := by decide +kernel
theorem dX5_digest_115 : decode cX5_digest 115 = .ok (.if_icmp .ge 81, 3) := by decide +kernel
theorem dX5_digest_118 : decode cX5_digest 118 = .ok (.lload_n 1, 1) := by decide +kernel
theorem dX5_digest_119 : decode cX5_digest 119 = .ok (.ldc2_w 159, 3) := by decide +kernel
theorem dX5_digest_122 : decode cX5_digest 122 = .ok (.lmul, 1) := by decide +kernel
theorem dX5_digest_123 : decode cX5_digest 123 = .ok (.aload_n 0, 1) := by decide +kernel
theorem dX5_digest_124 : decode cX5_digest 124 = .ok (.getfield 9, 3) := by decide +kernel
theorem dX5_digest_127 : decode cX5_digest 127 = .ok (.iload_n 3, 1) := by decide +kernel
theorem dX5_digest_128 : decode cX5_digest 128 = .ok (.iaload, 1) := by decide +kernel
theorem dX5_digest_129 : decode cX5_digest 129 = .ok (.i2l, 1) := by decide +kernel
theorem dX5_digest_130 : decode cX5_digest 130 = .ok (.ladd, 1) := by decide +kernel
theorem dX5_digest_131 : decode cX5_digest 131 = .ok (.lstore_n 1, 1) := by decide +kernel
theorem dX5_digest_132 : decode cX5_digest 132 = .ok (.iconst 0, 1) := by decide +kernel
theorem dX5_digest_133 : decode cX5_digest 133 = .ok (.istore 4, 2) := by decide +kernel
theorem dX5_digest_135 : decode cX5_digest 135 = .ok (.iload 4, 2) := by decide +kernel
theorem dX5_digest_137 : decode cX5_digest 137 = .ok (.aload_n 0, 1) := by decide +kernel
theorem dX5_digest_138 : decode cX5_digest 138 = .ok (.getfield 9, 3) := by decide +kernel
theorem dX5_digest_141 : decode cX5_digest 141 = .ok (.iload_n 3, 1) := by decide +kernel
theorem dX5_digest_142 : decode cX5_digest 142 = .ok (.iaload, 1) := by decide +kernel
theorem dX5_digest_143 : decode cX5_digest 143 = .ok (.if_icmp .ge 29, 3) := by decide +kernel
theorem dX5_digest_146 : decode cX5_digest 146 = .ok (.lload_n 1, 1) := by decide +kernel
theorem dX5_digest_147 : decode cX5_digest 147 = .ok (.ldc2_w 159, 3) := by decide +kernel
theorem dX5_digest_150 : decode cX5_digest 150 = .ok (.lmul, 1) := by decide +kernel
theorem dX5_digest_151 : decode cX5_digest 151 = .ok (.aload_n 0, 1) := by decide +kernel
theorem dX5_digest_152 : decode cX5_digest 152 = .ok (.getfield 13, 3) := by decide +kernel
theorem dX5_digest_155 : decode cX5_digest 155 = .ok (.bipush 16, 2) := by decide +kernel
theorem dX5_digest_157 : decode cX5_digest 157 = .ok (.iload_n 3, 1) := by decide +kernel
theorem dX5_digest_158 : decode cX5_digest 158 = .ok (.imul, 1) := by decide +kernel
theorem dX5_digest_159 : decode cX5_digest 159 = .ok (.iload 4, 2) := by decide +kernel
theorem dX5_digest_161 : decode cX5_digest 161 = .ok (.iadd, 1) := by decide +kernel
theorem dX5_digest_162 : decode cX5_digest 162 = .ok (.iaload, 1) := by decide +kernel
theorem dX5_digest_163 : decode cX5_digest 163 = .ok (.i2l, 1) := by decide +kernel
theorem dX5_digest_164 : decode cX5_digest 164 = .ok (.ladd, 1) := by decide +kernel
theorem dX5_digest_165 : decode cX5_digest 165 = .ok (.lstore_n 1, 1) := by decide +kernel
theorem dX5_digest_166 : decode cX5_digest 166 = .ok (.iinc 4 1, 3) := by decide +kernel
theorem dX5_digest_169 : decode cX5_digest 169 = .ok (.goto (-34), 3) := by decide +kernel
theorem dX5_digest_172 : decode cX5_digest 172 = .ok (.lload_n 1, 1) := by decide +kernel
theorem dX5_digest_173 : decode cX5_digest 173 = .ok (.ldc2_w 159, 3) := by decide +kernel
theorem dX5_digest_176 : decode cX5_digest 176 = .ok (.lmul, 1) := by decide +kernel
theorem dX5_digest_177 : decode cX5_digest 177 = .ok (.aload_n 0, 1) := by decide +kernel
theorem dX5_digest_178 : decode cX5_digest 178 = .ok (.iload_n 3, 1) := by decide +kernel
theorem dX5_digest_179 : decode cX5_digest 179 = .ok (.aload_n 0, 1) := by decide +kernel
theorem dX5_digest_180 : decode cX5_digest 180 = .ok (.getfield 38, 3) := by decide +kernel
theorem dX5_digest_183 : decode cX5_digest 183 = .ok (.iconst (-1), 1) := by decide +kernel
theorem dX5_digest_184 : decode cX5_digest 184 = .ok (.invokevirtual 87, 3) := by decide +kernel
theorem dX5_digest_187 : decode cX5_digest 187 = .ok (.i2l, 1) := by decide +kernel
theorem dX5_digest_188 : decode cX5_digest 188 = .ok (.ladd, 1) := by decide +kernel
theorem dX5_digest_189 : decode cX5_digest 189 = .ok (.lstore_n 1, 1) := by decide +kernel
theorem dX5_digest_190 : decode cX5_digest 190 = .ok (.iinc 3 1, 3) := by decide +kernel
theorem dX5_digest_193 : decode cX5_digest 193 = .ok (.goto (-83), 3) := by decide +kernel
theorem dX5_digest_196 : decode cX5_digest 196 = .ok (.iconst 0, 1) := by decide +kernel
theorem dX5_digest_197 : decode cX5_digest 197 = .ok (.istore_n 3, 1) := by decide +kernel
theorem dX5_digest_198 : decode cX5_digest 198 = .ok (.iload_n 3, 1) := by decide +kernel
theorem dX5_digest_199 : decode cX5_digest 199 = .ok (.aload_n 0, 1) := by decide +kernel
theorem dX5_digest_200 : decode cX5_digest 200 = .ok (.getfield 64, 3) := by decide +kernel
theorem dX5_digest_203 : decode cX5_digest 203 = .ok (.if_icmp .ge 72, 3) := by decide +kernel
theorem dX5_digest_206 : decode cX5_digest 206 = .ok (.iconst 0, 1) := by decide +kernel
theorem dX5_digest_207 : decode cX5_digest 207 = .ok (.istore 4, 2) := by decide +kernel
theorem dX5_digest_209 : decode cX5_digest 209 = .ok (.iload 4, 2) := by decide +kernel
theorem dX5_digest_211 : decode cX5_digest 211 = .ok (.iconst 5, 1) := by decide +kernel
theorem dX5_digest_212 : decode cX5_digest 212 = .ok (.if_icmp .ge 24, 3) := by decide +kernel
theorem dX5_digest_215 : decode cX5_digest 215 = .ok (.lload_n 1, 1) := by decide +kernel
theorem dX5_digest_216 : decode cX5_digest 216 = .ok (.ldc2_w 159, 3) := by decide +kernel
theorem dX5_digest_219 : decode cX5_digest 219 = .ok (.lmul, 1) := by decide +kernel
theorem dX5_digest_220 : decode cX5_digest 220 = .ok (.aload_n 0, 1) := by decide +kernel
theorem dX5_digest_221 : decode cX5_digest 221 = .ok (.iload_n 3, 1) := by decide +kernel
theorem dX5_digest_222 : decode cX5_digest 222 = .ok (.iload 4, 2) := by decide +kernel
theorem dX5_digest_224 : decode cX5_digest 224 = .ok (.invokevirtual 132, 3) := by decide +kernel
theorem dX5_digest_227 : decode cX5_digest 227 = .ok (.i2l, 1) := by decide +kernel
theorem dX5_digest_228 : decode cX5_digest 228 = .ok (.ladd, 1) := by decide +kernel
theorem dX5_digest_229 : decode cX5_digest 229 = .ok (.lstore_n 1, 1) := by decide +kernel
theorem dX5_digest_230 : decode cX5_digest 230 = .ok (.iinc 4 1, 3) := by decide +kernel
theorem dX5_digest_233 : decode cX5_digest 233 = .ok (.goto (-24), 3) := by decide +kernel
theorem dX5_digest_236 : decode cX5_digest 236 = .ok (.iconst 0, 1) := by decide +kernel
theorem dX5_digest_237 : decode cX5_digest 237 = .ok (.istore 4, 2) := by decide +kernel
theorem dX5_digest_239 : decode cX5_digest 239 = .ok (.iload 4, 2) := by decide +kernel
theorem dX5_digest_241 : decode cX5_digest 241 = .ok (.aload_n 0, 1) := by decide +kernel
theorem dX5_digest_242 : decode cX5_digest 242 = .ok (.getfield 57, 3) := by decide +kernel
theorem dX5_digest_245 : decode cX5_digest 245 = .ok (.if_icmp .ge 24, 3) := by decide +kernel
theorem dX5_digest_248 : decode cX5_digest 248 = .ok (.lload_n 1, 1) := by decide +kernel
theorem dX5_digest_249 : decode cX5_digest 249 = .ok (.ldc2_w 159, 3) := by decide +kernel
theorem dX5_digest_252 : decode cX5_digest 252 = .ok (.lmul, 1) := by decide +kernel
theorem dX5_digest_253 : decode cX5_digest 253 = .ok (.aload_n 0, 1) := by decide +kernel
theorem dX5_digest_254 : decode cX5_digest 254 = .ok (.iload_n 3, 1) := by decide +kernel
theorem dX5_digest_255 : decode cX5_digest 255 = .ok (.iload 4, 2) := by decide +kernel
theorem dX5_digest_257 : decode cX5_digest 257 = .ok (.invokevirtual 104, 3) := by decide +kernel
theorem dX5_digest_260 : decode cX5_digest 260 = .ok (.i2l, 1) := by decide +kernel
theorem dX5_digest_261 : decode cX5_digest 261 = .ok (.ladd, 1) := by decide +kernel
theorem dX5_digest_262 : decode cX5_digest 262 = .ok (.lstore_n 1, 1) := by decide +kernel
theorem dX5_digest_263 : decode cX5_digest 263 = .ok (.iinc 4 1, 3) := by decide +kernel
theorem dX5_digest_266 : decode cX5_digest 266 = .ok (.goto (-27), 3) := by decide +kernel
theorem dX5_digest_269 : decode cX5_digest 269 = .ok (.iinc 3 1, 3) := by decide +kernel
theorem dX5_digest_272 : decode cX5_digest 272 = .ok (.goto (-74), 3) := by decide +kernel
theorem dX5_digest_275 : decode cX5_digest 275 = .ok (.lload_n 1, 1) := by decide +kernel
theorem dX5_digest_276 : decode cX5_digest 276 = .ok (.lreturn, 1) := by decide +kernel
theorem dJ9_floorMod_7cf53_0 : decode cJ9_floorMod_7cf53 0 = .ok (.iload_n 0, 1) := by decide +kernel
theorem dJ9_floorMod_7cf53_1 : decode cJ9_floorMod_7cf53 1 = .ok (.iload_n 1, 1) := by decide +kernel
theorem dJ9_floorMod_7cf53_2 : decode cJ9_floorMod_7cf53 2 = .ok (.irem, 1) := by decide +kernel
theorem dJ9_floorMod_7cf53_3 : decode cJ9_floorMod_7cf53 3 = .ok (.istore_n 2, 1) := by decide +kernel
theorem dJ9_floorMod_7cf53_4 : decode cJ9_floorMod_7cf53 4 = .ok (.iload_n 0, 1) := by decide +kernel
theorem dJ9_floorMod_7cf53_5 : decode cJ9_floorMod_7cf53 5 = .ok (.iload_n 1, 1) := by decide +kernel
theorem dJ9_floorMod_7cf53_6 : decode cJ9_floorMod_7cf53 6 = .ok (.ixor, 1) := by decide +kernel
theorem dJ9_floorMod_7cf53_7 : decode cJ9_floorMod_7cf53 7 = .ok (.ifCond .ge 11, 3) := by decide +kernel
theorem dJ9_floorMod_7cf53_10 : decode cJ9_floorMod_7cf53 10 = .ok (.iload_n 2, 1) := by decide +kernel
theorem dJ9_floorMod_7cf53_11 : decode cJ9_floorMod_7cf53 11 = .ok (.ifCond .eq 7, 3) := by decide +kernel
theorem dJ9_floorMod_7cf53_14 : decode cJ9_floorMod_7cf53 14 = .ok (.iload_n 2, 1) := by decide +kernel
theorem dJ9_floorMod_7cf53_15 : decode cJ9_floorMod_7cf53 15 = .ok (.iload_n 1, 1) := by decide +kernel
theorem dJ9_floorMod_7cf53_16 : decode cJ9_floorMod_7cf53 16 = .ok (.iadd, 1) := by decide +kernel
theorem dJ9_floorMod_7cf53_17 : decode cJ9_floorMod_7cf53 17 = .ok (.ireturn, 1) := by decide +kernel
theorem dJ9_floorMod_7cf53_18 : decode cJ9_floorMod_7cf53 18 = .ok (.iload_n 2, 1) := by decide +kernel
theorem dJ9_floorMod_7cf53_19 : decode cJ9_floorMod_7cf53 19 = .ok (.ireturn, 1) := by decide +kernel
theorem dJ9_abs_0f7a4_0 : decode cJ9_abs_0f7a4 0 = .ok (.iload_n 0, 1) := by decide +kernel
theorem dJ9_abs_0f7a4_1 : decode cJ9_abs_0f7a4 1 = .ok (.ifCond .ge 8, 3) := by decide +kernel
theorem dJ9_abs_0f7a4_4 : decode cJ9_abs_0f7a4 4 = .ok (.iload_n 0, 1) := by decide +kernel
theorem dJ9_abs_0f7a4_5 : decode cJ9_abs_0f7a4 5 = .ok (.ineg, 1) := by decide +kernel
theorem dJ9_abs_0f7a4_6 : decode cJ9_abs_0f7a4 6 = .ok (.goto 4, 3) := by decide +kernel
theorem dJ9_abs_0f7a4_9 : decode cJ9_abs_0f7a4 9 = .ok (.iload_n 0, 1) := by decide +kernel
theorem dJ9_abs_0f7a4_10 : decode cJ9_abs_0f7a4 10 = .ok (.ireturn, 1) := by decide +kernel
theorem dJ9_max_7cf53_0 : decode cJ9_max_7cf53 0 = .ok (.iload_n 0, 1) := by decide +kernel
theorem dJ9_max_7cf53_1 : decode cJ9_max_7cf53 1 = .ok (.iload_n 1, 1) := by decide +kernel
theorem dJ9_max_7cf53_2 : decode cJ9_max_7cf53 2 = .ok (.if_icmp .lt 7, 3) := by decide +kernel
theorem dJ9_max_7cf53_5 : decode cJ9_max_7cf53 5 = .ok (.iload_n 0, 1) := by decide +kernel
theorem dJ9_max_7cf53_6 : decode cJ9_max_7cf53 6 = .ok (.goto 4, 3) := by decide +kernel
theorem dJ9_max_7cf53_9 : decode cJ9_max_7cf53 9 = .ok (.iload_n 1, 1) := by decide +kernel
theorem dJ9_max_7cf53_10 : decode cJ9_max_7cf53 10 = .ok (.ireturn, 1) := by decide +kernel
theorem dJ9_min_7cf53_0 : decode cJ9_min_7cf53 0 = .ok (.iload_n 0, 1) := by decide +kernel
theorem dJ9_min_7cf53_1 : decode cJ9_min_7cf53 1 = .ok (.iload_n 1, 1) := by decide +kernel
theorem dJ9_min_7cf53_2 : decode cJ9_min_7cf53 2 = .ok (.if_icmp .gt 7, 3) := by decide +kernel
theorem dJ9_min_7cf53_5 : decode cJ9_min_7cf53 5 = .ok (.iload_n 0, 1) := by decide +kernel
theorem dJ9_min_7cf53_6 : decode cJ9_min_7cf53 6 = .ok (.goto 4, 3) := by decide +kernel
theorem dJ9_min_7cf53_9 : decode cJ9_min_7cf53 9 = .ok (.iload_n 1, 1) := by decide +kernel
theorem dJ9_min_7cf53_10 : decode cJ9_min_7cf53 10 = .ok (.ireturn, 1) := by decide +kernel
theorem dJ7_fill_53178_0 : decode cJ7_fill_53178 0 = .ok (.iconst 0, 1) := by decide +kernel
theorem dJ7_fill_53178_1 : decode cJ7_fill_53178 1 = .ok (.istore_n 2, 1) := by decide +kernel
theorem dJ7_fill_53178_2 : decode cJ7_fill_53178 2 = .ok (.aload_n 0, 1) := by decide +kernel
theorem dJ7_fill_53178_3 : decode cJ7_fill_53178 3 = .ok (.arraylength, 1) := by decide +kernel
theorem dJ7_fill_53178_4 : decode cJ7_fill_53178 4 = .ok (.istore_n 3, 1) := by decide +kernel
theorem dJ7_fill_53178_5 : decode cJ7_fill_53178 5 = .ok (.iload_n 2, 1) := by decide +kernel
theorem dJ7_fill_53178_6 : decode cJ7_fill_53178 6 = .ok (.iload_n 3, 1) := by decide +kernel
theorem dJ7_fill_53178_7 : decode cJ7_fill_53178 7 = .ok (.if_icmp .ge 13, 3) := by decide +kernel
theorem dJ7_fill_53178_10 : decode cJ7_fill_53178 10 = .ok (.aload_n 0, 1) := by decide +kernel
theorem dJ7_fill_53178_11 : decode cJ7_fill_53178 11 = .ok (.iload_n 2, 1) := by decide +kernel
theorem dJ7_fill_53178_12 : decode cJ7_fill_53178 12 = .ok (.iload_n 1, 1) := by decide +kernel
theorem dJ7_fill_53178_13 : decode cJ7_fill_53178 13 = .ok (.iastore, 1) := by decide +kernel
theorem dJ7_fill_53178_14 : decode cJ7_fill_53178 14 = .ok (.iinc 2 1, 3) := by decide +kernel
theorem dJ7_fill_53178_17 : decode cJ7_fill_53178 17 = .ok (.goto (-12), 3) := by decide +kernel
theorem dJ7_fill_53178_20 : decode cJ7_fill_53178 20 = .ok (.return_, 1) := by decide +kernel
end
section
theorem dL_barrel_0 : decode cL_barrel 0 = .ok (.aload_n 1, 1) := by decide +kernel
theorem dL_barrel_1 : decode cL_barrel 1 = .ok (.iconst 0, 1) := by decide +kernel
theorem dL_barrel_2 : decode cL_barrel 2 = .ok (.aload_n 0, 1) := by decide +kernel
theorem dL_barrel_3 : decode cL_barrel 3 = .ok (.invokevirtual 7, 3) := by decide +kernel
theorem dL_barrel_6 : decode cL_barrel 6 = .ok (.i2l, 1) := by decide +kernel
theorem dL_barrel_7 : decode cL_barrel 7 = .ok (.lastore, 1) := by decide +kernel
theorem dL_barrel_8 : decode cL_barrel 8 = .ok (.goto 6, 3) := by decide +kernel
theorem dL_barrel_11 : decode cL_barrel 11 = .ok (.astore_n 2, 1) := by decide +kernel
theorem dL_barrel_12 : decode cL_barrel 12 = .ok (.iconst 1, 1) := by decide +kernel
theorem dL_barrel_13 : decode cL_barrel 13 = .ok (.ireturn, 1) := by decide +kernel
theorem dL_barrel_14 : decode cL_barrel 14 = .ok (.iconst 0, 1) := by decide +kernel
theorem dL_barrel_15 : decode cL_barrel 15 = .ok (.ireturn, 1) := by decide +kernel
theorem dL_pin_0 : decode cL_pin 0 = .ok (.aload_n 3, 1) := by decide +kernel
theorem dL_pin_1 : decode cL_pin 1 = .ok (.iconst 0, 1) := by decide +kernel
theorem dL_pin_2 : decode cL_pin 2 = .ok (.aload_n 0, 1) := by decide +kernel
theorem dL_pin_3 : decode cL_pin 3 = .ok (.iload_n 1, 1) := by decide +kernel
theorem dL_pin_4 : decode cL_pin 4 = .ok (.iload_n 2, 1) := by decide +kernel
theorem dL_pin_5 : decode cL_pin 5 = .ok (.invokevirtual 15, 3) := by decide +kernel
theorem dL_pin_8 : decode cL_pin 8 = .ok (.i2l, 1) := by decide +kernel
theorem dL_pin_9 : decode cL_pin 9 = .ok (.lastore, 1) := by decide +kernel
theorem dL_pin_10 : decode cL_pin 10 = .ok (.goto 11, 3) := by decide +kernel
theorem dL_pin_13 : decode cL_pin 13 = .ok (.astore 4, 2) := by decide +kernel
theorem dL_pin_15 : decode cL_pin 15 = .ok (.iconst 1, 1) := by decide +kernel
theorem dL_pin_16 : decode cL_pin 16 = .ok (.ireturn, 1) := by decide +kernel
theorem dL_pin_17 : decode cL_pin 17 = .ok (.astore 4, 2) := by decide +kernel
theorem dL_pin_19 : decode cL_pin 19 = .ok (.iconst 2, 1) := by decide +kernel
theorem dL_pin_20 : decode cL_pin 20 = .ok (.ireturn, 1) := by decide +kernel
theorem dL_pin_21 : decode cL_pin 21 = .ok (.iconst 0, 1) := by decide +kernel
theorem dL_pin_22 : decode cL_pin 22 = .ok (.ireturn, 1) := by decide +kernel
theorem dL_note_0 : decode cL_note 0 = .ok (.aload_n 3, 1) := by decide +kernel
theorem dL_note_1 : decode cL_note 1 = .ok (.iconst 0, 1) := by decide +kernel
theorem dL_note_2 : decode cL_note 2 = .ok (.aload_n 0, 1) := by decide +kernel
theorem dL_note_3 : decode cL_note 3 = .ok (.iload_n 1, 1) := by decide +kernel
theorem dL_note_4 : decode cL_note 4 = .ok (.iload_n 2, 1) := by decide +kernel
theorem dL_note_5 : decode cL_note 5 = .ok (.invokevirtual 21, 3) := by decide +kernel
theorem dL_note_8 : decode cL_note 8 = .ok (.i2l, 1) := by decide +kernel
theorem dL_note_9 : decode cL_note 9 = .ok (.lastore, 1) := by decide +kernel
theorem dL_note_10 : decode cL_note 10 = .ok (.goto 7, 3) := by decide +kernel
theorem dL_note_13 : decode cL_note 13 = .ok (.astore 4, 2) := by decide +kernel
theorem dL_note_15 : decode cL_note 15 = .ok (.iconst 1, 1) := by decide +kernel
theorem dL_note_16 : decode cL_note 16 = .ok (.ireturn, 1) := by decide +kernel
theorem dL_note_17 : decode cL_note 17 = .ok (.iconst 0, 1) := by decide +kernel
theorem dL_note_18 : decode cL_note 18 = .ok (.ireturn, 1) := by decide +kernel
theorem dL_street_0 : decode cL_street 0 = .ok (.aload_n 3, 1) := by decide +kernel
theorem dL_street_1 : decode cL_street 1 = .ok (.iconst 0, 1) := by decide +kernel
theorem dL_street_2 : decode cL_street 2 = .ok (.aload_n 0, 1) := by decide +kernel
theorem dL_street_3 : decode cL_street 3 = .ok (.iload_n 1, 1) := by decide +kernel
theorem dL_street_4 : decode cL_street 4 = .ok (.iload_n 2, 1) := by decide +kernel
theorem dL_street_5 : decode cL_street 5 = .ok (.invokevirtual 24, 3) := by decide +kernel
theorem dL_street_8 : decode cL_street 8 = .ok (.i2l, 1) := by decide +kernel
theorem dL_street_9 : decode cL_street 9 = .ok (.lastore, 1) := by decide +kernel
theorem dL_street_10 : decode cL_street 10 = .ok (.goto 11, 3) := by decide +kernel
theorem dL_street_13 : decode cL_street 13 = .ok (.astore 4, 2) := by decide +kernel
theorem dL_street_15 : decode cL_street 15 = .ok (.iconst 1, 1) := by decide +kernel
theorem dL_street_16 : decode cL_street 16 = .ok (.ireturn, 1) := by decide +kernel
theorem dL_street_17 : decode cL_street 17 = .ok (.astore 4, 2) := by decide +kernel
theorem dL_street_19 : decode cL_street 19 = .ok (.iconst 2, 1) := by decide +kernel
theorem dL_street_20 : decode cL_street 20 = .ok (.ireturn, 1) := by decide +kernel
theorem dL_street_21 : decode cL_street 21 = .ok (.iconst 0, 1) := by decide +kernel
theorem dL_street_22 : decode cL_street 22 = .ok (.ireturn, 1) := by decide +kernel
theorem dL_permit_0 : decode cL_permit 0 = .ok (.aload_n 3, 1) := by decide +kernel
theorem dL_permit_1 : decode cL_permit 1 = .ok (.iconst 0, 1) := by decide +kernel
theorem dL_permit_2 : decode cL_permit 2 = .ok (.aload_n 0, 1) := by decide +kernel
theorem dL_permit_3 : decode cL_permit 3 = .ok (.iload_n 1, 1) := by decide +kernel
theorem dL_permit_4 : decode cL_permit 4 = .ok (.iload_n 2, 1) := by decide +kernel
theorem dL_permit_5 : decode cL_permit 5 = .ok (.invokevirtual 29, 3) := by decide +kernel
theorem dL_permit_8 : decode cL_permit 8 = .ok (.i2l, 1) := by decide +kernel
theorem dL_permit_9 : decode cL_permit 9 = .ok (.lastore, 1) := by decide +kernel
theorem dL_permit_10 : decode cL_permit 10 = .ok (.goto 11, 3) := by decide +kernel
theorem dL_permit_13 : decode cL_permit 13 = .ok (.astore 4, 2) := by decide +kernel
theorem dL_permit_15 : decode cL_permit 15 = .ok (.iconst 1, 1) := by decide +kernel
theorem dL_permit_16 : decode cL_permit 16 = .ok (.ireturn, 1) := by decide +kernel
theorem dL_permit_17 : decode cL_permit 17 = .ok (.astore 4, 2) := by decide +kernel
theorem dL_permit_19 : decode cL_permit 19 = .ok (.iconst 2, 1) := by decide +kernel
theorem dL_permit_20 : decode cL_permit 20 = .ok (.ireturn, 1) := by decide +kernel
theorem dL_permit_21 : decode cL_permit 21 = .ok (.iconst 0, 1) := by decide +kernel
theorem dL_permit_22 : decode cL_permit 22 = .ok (.ireturn, 1) := by decide +kernel
theorem dL_setDamp_0 : decode cL_setDamp 0 = .ok (.aload_n 3, 1) := by decide +kernel
theorem dL_setDamp_1 : decode cL_setDamp 1 = .ok (.iconst 0, 1) := by decide +kernel
theorem dL_setDamp_2 : decode cL_setDamp 2 = .ok (.aload_n 0, 1) := by decide +kernel
theorem dL_setDamp_3 : decode cL_setDamp 3 = .ok (.iload_n 1, 1) := by decide +kernel
theorem dL_setDamp_4 : decode cL_setDamp 4 = .ok (.iload_n 2, 1) := by decide +kernel
theorem dL_setDamp_5 : decode cL_setDamp 5 = .ok (.invokevirtual 32, 3) := by decide +kernel
theorem dL_setDamp_8 : decode cL_setDamp 8 = .ok (.i2l, 1) := by decide +kernel
theorem dL_setDamp_9 : decode cL_setDamp 9 = .ok (.lastore, 1) := by decide +kernel
theorem dL_setDamp_10 : decode cL_setDamp 10 = .ok (.goto 11, 3) := by decide +kernel
theorem dL_setDamp_13 : decode cL_setDamp 13 = .ok (.astore 4, 2) := by decide +kernel
theorem dL_setDamp_15 : decode cL_setDamp 15 = .ok (.iconst 1, 1) := by decide +kernel
theorem dL_setDamp_16 : decode cL_setDamp 16 = .ok (.ireturn, 1) := by decide +kernel
theorem dL_setDamp_17 : decode cL_setDamp 17 = .ok (.astore 4, 2) := by decide +kernel
theorem dL_setDamp_19 : decode cL_setDamp 19 = .ok (.iconst 2, 1) := by decide +kernel
theorem dL_setDamp_20 : decode cL_setDamp 20 = .ok (.ireturn, 1) := by decide +kernel
theorem dL_setDamp_21 : decode cL_setDamp 21 = .ok (.iconst 0, 1) := by decide +kernel
theorem dL_setDamp_22 : decode cL_setDamp 22 = .ok (.ireturn, 1) := by decide +kernel
theorem dL_play_0 : decode cL_play 0 = .ok (.aload_n 3, 1) := by decide +kernel
theorem dL_play_1 : decode cL_play 1 = .ok (.iconst 0, 1) := by decide +kernel
theorem dL_play_2 : decode cL_play 2 = .ok (.aload_n 0, 1) := by decide +kernel
theorem dL_play_3 : decode cL_play 3 = .ok (.iload_n 1, 1) := by decide +kernel
theorem dL_play_4 : decode cL_play 4 = .ok (.iload_n 2, 1) := by decide +kernel
theorem dL_play_5 : decode cL_play 5 = .ok (.invokevirtual 35, 3) := by decide +kernel
theorem dL_play_8 : decode cL_play 8 = .ok (.i2l, 1) := by decide +kernel
theorem dL_play_9 : decode cL_play 9 = .ok (.lastore, 1) := by decide +kernel
theorem dL_play_10 : decode cL_play 10 = .ok (.goto 11, 3) := by decide +kernel
theorem dL_play_13 : decode cL_play 13 = .ok (.astore 4, 2) := by decide +kernel
theorem dL_play_15 : decode cL_play 15 = .ok (.iconst 1, 1) := by decide +kernel
theorem dL_play_16 : decode cL_play 16 = .ok (.ireturn, 1) := by decide +kernel
theorem dL_play_17 : decode cL_play 17 = .ok (.astore 4, 2) := by decide +kernel
theorem dL_play_19 : decode cL_play 19 = .ok (.iconst 2, 1) := by decide +kernel
theorem dL_play_20 : decode cL_play 20 = .ok (.ireturn, 1) := by decide +kernel
theorem dL_play_21 : decode cL_play 21 = .ok (.iconst 0, 1) := by decide +kernel
theorem dL_play_22 : decode cL_play 22 = .ok (.ireturn, 1) := by decide +kernel
theorem dL_tune_0 : decode cL_tune 0 = .ok (.aload_n 3, 1) := by decide +kernel
theorem dL_tune_1 : decode cL_tune 1 = .ok (.iconst 0, 1) := by decide +kernel
theorem dL_tune_2 : decode cL_tune 2 = .ok (.aload_n 0, 1) := by decide +kernel
theorem dL_tune_3 : decode cL_tune 3 = .ok (.iload_n 1, 1) := by decide +kernel
theorem dL_tune_4 : decode cL_tune 4 = .ok (.iload_n 2, 1) := by decide +kernel
theorem dL_tune_5 : decode cL_tune 5 = .ok (.invokevirtual 38, 3) := by decide +kernel
theorem dL_tune_8 : decode cL_tune 8 = .ok (.i2l, 1) := by decide +kernel
theorem dL_tune_9 : decode cL_tune 9 = .ok (.lastore, 1) := by decide +kernel
theorem dL_tune_10 : decode cL_tune 10 = .ok (.goto 11, 3) := by decide +kernel
theorem dL_tune_13 : decode cL_tune 13 = .ok (.astore 4, 2) := by decide +kernel
theorem dL_tune_15 : decode cL_tune 15 = .ok (.iconst 1, 1) := by decide +kernel
theorem dL_tune_16 : decode cL_tune 16 = .ok (.ireturn, 1) := by decide +kernel
theorem dL_tune_17 : decode cL_tune 17 = .ok (.astore 4, 2) := by decide +kernel
theorem dL_tune_19 : decode cL_tune 19 = .ok (.iconst 2, 1) := by decide +kernel
theorem dL_tune_20 : decode cL_tune 20 = .ok (.ireturn, 1) := by decide +kernel
theorem dL_tune_21 : decode cL_tune 21 = .ok (.iconst 0, 1) := by decide +kernel
theorem dL_tune_22 : decode cL_tune 22 = .ok (.ireturn, 1) := by decide +kernel
theorem dL_felt_0 : decode cL_felt 0 = .ok (.aload_n 2, 1) := by decide +kernel
theorem dL_felt_1 : decode cL_felt 1 = .ok (.iconst 0, 1) := by decide +kernel
theorem dL_felt_2 : decode cL_felt 2 = .ok (.aload_n 0, 1) := by decide +kernel
theorem dL_felt_3 : decode cL_felt 3 = .ok (.iload_n 1, 1) := by decide +kernel
theorem dL_felt_4 : decode cL_felt 4 = .ok (.invokevirtual 41, 3) := by decide +kernel
theorem dL_felt_7 : decode cL_felt 7 = .ok (.i2l, 1) := by decide +kernel
theorem dL_felt_8 : decode cL_felt 8 = .ok (.lastore, 1) := by decide +kernel
theorem dL_felt_9 : decode cL_felt 9 = .ok (.goto 9, 3) := by decide +kernel
theorem dL_felt_12 : decode cL_felt 12 = .ok (.astore_n 3, 1) := by decide +kernel
theorem dL_felt_13 : decode cL_felt 13 = .ok (.iconst 1, 1) := by decide +kernel
theorem dL_felt_14 : decode cL_felt 14 = .ok (.ireturn, 1) := by decide +kernel
theorem dL_felt_15 : decode cL_felt 15 = .ok (.astore_n 3, 1) := by decide +kernel
theorem dL_felt_16 : decode cL_felt 16 = .ok (.iconst 2, 1) := by decide +kernel
theorem dL_felt_17 : decode cL_felt 17 = .ok (.ireturn, 1) := by decide +kernel
theorem dL_felt_18 : decode cL_felt 18 = .ok (.iconst 0, 1) := by decide +kernel
theorem dL_felt_19 : decode cL_felt 19 = .ok (.ireturn, 1) := by decide +kernel
theorem dL_pipe_0 : decode cL_pipe 0 = .ok (.aload_n 3, 1) := by decide +kernel
theorem dL_pipe_1 : decode cL_pipe 1 = .ok (.iconst 0, 1) := by decide +kernel
theorem dL_pipe_2 : decode cL_pipe 2 = .ok (.aload_n 0, 1) := by decide +kernel
theorem dL_pipe_3 : decode cL_pipe 3 = .ok (.iload_n 1, 1) := by decide +kernel
theorem dL_pipe_4 : decode cL_pipe 4 = .ok (.iload_n 2, 1) := by decide +kernel
theorem dL_pipe_5 : decode cL_pipe 5 = .ok (.invokevirtual 45, 3) := by decide +kernel
theorem dL_pipe_8 : decode cL_pipe 8 = .ok (.i2l, 1) := by decide +kernel
theorem dL_pipe_9 : decode cL_pipe 9 = .ok (.lastore, 1) := by decide +kernel
theorem dL_pipe_10 : decode cL_pipe 10 = .ok (.goto 7, 3) := by decide +kernel
theorem dL_pipe_13 : decode cL_pipe 13 = .ok (.astore 4, 2) := by decide +kernel
theorem dL_pipe_15 : decode cL_pipe 15 = .ok (.iconst 1, 1) := by decide +kernel
theorem dL_pipe_16 : decode cL_pipe 16 = .ok (.ireturn, 1) := by decide +kernel
theorem dL_pipe_17 : decode cL_pipe 17 = .ok (.iconst 0, 1) := by decide +kernel
theorem dL_pipe_18 : decode cL_pipe 18 = .ok (.ireturn, 1) := by decide +kernel
theorem dL_sound_0 : decode cL_sound 0 = .ok (.aload_n 2, 1) := by decide +kernel
theorem dL_sound_1 : decode cL_sound 1 = .ok (.iconst 0, 1) := by decide +kernel
theorem dL_sound_2 : decode cL_sound 2 = .ok (.aload_n 0, 1) := by decide +kernel
theorem dL_sound_3 : decode cL_sound 3 = .ok (.iload_n 1, 1) := by decide +kernel
theorem dL_sound_4 : decode cL_sound 4 = .ok (.invokevirtual 48, 3) := by decide +kernel
theorem dL_sound_7 : decode cL_sound 7 = .ok (.i2l, 1) := by decide +kernel
theorem dL_sound_8 : decode cL_sound 8 = .ok (.lastore, 1) := by decide +kernel
theorem dL_sound_9 : decode cL_sound 9 = .ok (.goto 6, 3) := by decide +kernel
theorem dL_sound_12 : decode cL_sound 12 = .ok (.astore_n 3, 1) := by decide +kernel
theorem dL_sound_13 : decode cL_sound 13 = .ok (.iconst 1, 1) := by decide +kernel
theorem dL_sound_14 : decode cL_sound 14 = .ok (.ireturn, 1) := by decide +kernel
theorem dL_sound_15 : decode cL_sound 15 = .ok (.iconst 0, 1) := by decide +kernel
theorem dL_sound_16 : decode cL_sound 16 = .ok (.ireturn, 1) := by decide +kernel
theorem dL_told_0 : decode cL_told 0 = .ok (.aload_n 3, 1) := by decide +kernel
theorem dL_told_1 : decode cL_told 1 = .ok (.iconst 0, 1) := by decide +kernel
theorem dL_told_2 : decode cL_told 2 = .ok (.aload_n 0, 1) := by decide +kernel
theorem dL_told_3 : decode cL_told 3 = .ok (.iload_n 1, 1) := by decide +kernel
theorem dL_told_4 : decode cL_told 4 = .ok (.iload_n 2, 1) := by decide +kernel
theorem dL_told_5 : decode cL_told 5 = .ok (.invokevirtual 51, 3) := by decide +kernel
theorem dL_told_8 : decode cL_told 8 = .ok (.i2l, 1) := by decide +kernel
theorem dL_told_9 : decode cL_told 9 = .ok (.lastore, 1) := by decide +kernel
theorem dL_told_10 : decode cL_told 10 = .ok (.goto 7, 3) := by decide +kernel
theorem dL_told_13 : decode cL_told 13 = .ok (.astore 4, 2) := by decide +kernel
theorem dL_told_15 : decode cL_told 15 = .ok (.iconst 1, 1) := by decide +kernel
theorem dL_told_16 : decode cL_told 16 = .ok (.ireturn, 1) := by decide +kernel
theorem dL_told_17 : decode cL_told 17 = .ok (.iconst 0, 1) := by decide +kernel
theorem dL_told_18 : decode cL_told 18 = .ok (.ireturn, 1) := by decide +kernel
theorem dL_count_0 : decode cL_count 0 = .ok (.aload_n 2, 1) := by decide +kernel
theorem dL_count_1 : decode cL_count 1 = .ok (.iconst 0, 1) := by decide +kernel
theorem dL_count_2 : decode cL_count 2 = .ok (.aload_n 0, 1) := by decide +kernel
theorem dL_count_3 : decode cL_count 3 = .ok (.iload_n 1, 1) := by decide +kernel
theorem dL_count_4 : decode cL_count 4 = .ok (.invokevirtual 54, 3) := by decide +kernel
theorem dL_count_7 : decode cL_count 7 = .ok (.i2l, 1) := by decide +kernel
theorem dL_count_8 : decode cL_count 8 = .ok (.lastore, 1) := by decide +kernel
theorem dL_count_9 : decode cL_count 9 = .ok (.goto 6, 3) := by decide +kernel
theorem dL_count_12 : decode cL_count 12 = .ok (.astore_n 3, 1) := by decide +kernel
theorem dL_count_13 : decode cL_count 13 = .ok (.iconst 1, 1) := by decide +kernel
theorem dL_count_14 : decode cL_count 14 = .ok (.ireturn, 1) := by decide +kernel
theorem dL_count_15 : decode cL_count 15 = .ok (.iconst 0, 1) := by decide +kernel
theorem dL_count_16 : decode cL_count 16 = .ok (.ireturn, 1) := by decide +kernel
theorem dL_rest_0 : decode cL_rest 0 = .ok (.aload_n 2, 1) := by decide +kernel
theorem dL_rest_1 : decode cL_rest 1 = .ok (.iconst 0, 1) := by decide +kernel
theorem dL_rest_2 : decode cL_rest 2 = .ok (.aload_n 0, 1) := by decide +kernel
theorem dL_rest_3 : decode cL_rest 3 = .ok (.iload_n 1, 1) := by decide +kernel
theorem dL_rest_4 : decode cL_rest 4 = .ok (.invokevirtual 57, 3) := by decide +kernel
theorem dL_rest_7 : decode cL_rest 7 = .ok (.i2l, 1) := by decide +kernel
theorem dL_rest_8 : decode cL_rest 8 = .ok (.lastore, 1) := by decide +kernel
theorem dL_rest_9 : decode cL_rest 9 = .ok (.goto 6, 3) := by decide +kernel
theorem dL_rest_12 : decode cL_rest 12 = .ok (.astore_n 3, 1) := by decide +kernel
theorem dL_rest_13 : decode cL_rest 13 = .ok (.iconst 1, 1) := by decide +kernel
theorem dL_rest_14 : decode cL_rest 14 = .ok (.ireturn, 1) := by decide +kernel
theorem dL_rest_15 : decode cL_rest 15 = .ok (.iconst 0, 1) := by decide +kernel
theorem dL_rest_16 : decode cL_rest 16 = .ok (.ireturn, 1) := by decide +kernel
theorem dL_pays_0 : decode cL_pays 0 = .ok (.aload_n 3, 1) := by decide +kernel
theorem dL_pays_1 : decode cL_pays 1 = .ok (.iconst 0, 1) := by decide +kernel
theorem dL_pays_2 : decode cL_pays 2 = .ok (.aload_n 0, 1) := by decide +kernel
theorem dL_pays_3 : decode cL_pays 3 = .ok (.iload_n 1, 1) := by decide +kernel
theorem dL_pays_4 : decode cL_pays 4 = .ok (.iload_n 2, 1) := by decide +kernel
theorem dL_pays_5 : decode cL_pays 5 = .ok (.invokevirtual 60, 3) := by decide +kernel
theorem dL_pays_8 : decode cL_pays 8 = .ok (.i2l, 1) := by decide +kernel
theorem dL_pays_9 : decode cL_pays 9 = .ok (.lastore, 1) := by decide +kernel
theorem dL_pays_10 : decode cL_pays 10 = .ok (.goto 7, 3) := by decide +kernel
theorem dL_pays_13 : decode cL_pays 13 = .ok (.astore 4, 2) := by decide +kernel
theorem dL_pays_15 : decode cL_pays 15 = .ok (.iconst 1, 1) := by decide +kernel
theorem dL_pays_16 : decode cL_pays 16 = .ok (.ireturn, 1) := by decide +kernel
theorem dL_pays_17 : decode cL_pays 17 = .ok (.iconst 0, 1) := by decide +kernel
theorem dL_pays_18 : decode cL_pays 18 = .ok (.ireturn, 1) := by decide +kernel
theorem dL_best_0 : decode cL_best 0 = .ok (.aload_n 2, 1) := by decide +kernel
theorem dL_best_1 : decode cL_best 1 = .ok (.iconst 0, 1) := by decide +kernel
theorem dL_best_2 : decode cL_best 2 = .ok (.aload_n 0, 1) := by decide +kernel
theorem dL_best_3 : decode cL_best 3 = .ok (.iload_n 1, 1) := by decide +kernel
theorem dL_best_4 : decode cL_best 4 = .ok (.invokevirtual 63, 3) := by decide +kernel
theorem dL_best_7 : decode cL_best 7 = .ok (.i2l, 1) := by decide +kernel
theorem dL_best_8 : decode cL_best 8 = .ok (.lastore, 1) := by decide +kernel
theorem dL_best_9 : decode cL_best 9 = .ok (.goto 6, 3) := by decide +kernel
theorem dL_best_12 : decode cL_best 12 = .ok (.astore_n 3, 1) := by decide +kernel
theorem dL_best_13 : decode cL_best 13 = .ok (.iconst 1, 1) := by decide +kernel
theorem dL_best_14 : decode cL_best 14 = .ok (.ireturn, 1) := by decide +kernel
theorem dL_best_15 : decode cL_best 15 = .ok (.iconst 0, 1) := by decide +kernel
theorem dL_best_16 : decode cL_best 16 = .ok (.ireturn, 1) := by decide +kernel
theorem dL_worst_0 : decode cL_worst 0 = .ok (.aload_n 2, 1) := by decide +kernel
theorem dL_worst_1 : decode cL_worst 1 = .ok (.iconst 0, 1) := by decide +kernel
theorem dL_worst_2 : decode cL_worst 2 = .ok (.aload_n 0, 1) := by decide +kernel
theorem dL_worst_3 : decode cL_worst 3 = .ok (.iload_n 1, 1) := by decide +kernel
theorem dL_worst_4 : decode cL_worst 4 = .ok (.invokevirtual 66, 3) := by decide +kernel
theorem dL_worst_7 : decode cL_worst 7 = .ok (.i2l, 1) := by decide +kernel
theorem dL_worst_8 : decode cL_worst 8 = .ok (.lastore, 1) := by decide +kernel
theorem dL_worst_9 : decode cL_worst 9 = .ok (.goto 6, 3) := by decide +kernel
theorem dL_worst_12 : decode cL_worst 12 = .ok (.astore_n 3, 1) := by decide +kernel
theorem dL_worst_13 : decode cL_worst 13 = .ok (.iconst 1, 1) := by decide +kernel
theorem dL_worst_14 : decode cL_worst 14 = .ok (.ireturn, 1) := by decide +kernel
theorem dL_worst_15 : decode cL_worst 15 = .ok (.iconst 0, 1) := by decide +kernel
theorem dL_worst_16 : decode cL_worst 16 = .ok (.ireturn, 1) := by decide +kernel
theorem dL_foresee_0 : decode cL_foresee 0 = .ok (.aload_n 3, 1) := by decide +kernel
theorem dL_foresee_1 : decode cL_foresee 1 = .ok (.iconst 0, 1) := by decide +kernel
theorem dL_foresee_2 : decode cL_foresee 2 = .ok (.aload_n 0, 1) := by decide +kernel
theorem dL_foresee_3 : decode cL_foresee 3 = .ok (.iload_n 1, 1) := by decide +kernel
theorem dL_foresee_4 : decode cL_foresee 4 = .ok (.iload_n 2, 1) := by decide +kernel
theorem dL_foresee_5 : decode cL_foresee 5 = .ok (.invokevirtual 69, 3) := by decide +kernel
theorem dL_foresee_8 : decode cL_foresee 8 = .ok (.i2l, 1) := by decide +kernel
theorem dL_foresee_9 : decode cL_foresee 9 = .ok (.lastore, 1) := by decide +kernel
theorem dL_foresee_10 : decode cL_foresee 10 = .ok (.goto 11, 3) := by decide +kernel
theorem dL_foresee_13 : decode cL_foresee 13 = .ok (.astore 4, 2) := by decide +kernel
theorem dL_foresee_15 : decode cL_foresee 15 = .ok (.iconst 1, 1) := by decide +kernel
theorem dL_foresee_16 : decode cL_foresee 16 = .ok (.ireturn, 1) := by decide +kernel
theorem dL_foresee_17 : decode cL_foresee 17 = .ok (.astore 4, 2) := by decide +kernel
theorem dL_foresee_19 : decode cL_foresee 19 = .ok (.iconst 2, 1) := by decide +kernel
theorem dL_foresee_20 : decode cL_foresee 20 = .ok (.ireturn, 1) := by decide +kernel
theorem dL_foresee_21 : decode cL_foresee 21 = .ok (.iconst 0, 1) := by decide +kernel
theorem dL_foresee_22 : decode cL_foresee 22 = .ok (.ireturn, 1) := by decide +kernel
theorem dL_lasts_0 : decode cL_lasts 0 = .ok (.aload_n 2, 1) := by decide +kernel
theorem dL_lasts_1 : decode cL_lasts 1 = .ok (.iconst 0, 1) := by decide +kernel
theorem dL_lasts_2 : decode cL_lasts 2 = .ok (.aload_n 0, 1) := by decide +kernel
theorem dL_lasts_3 : decode cL_lasts 3 = .ok (.iload_n 1, 1) := by decide +kernel
theorem dL_lasts_4 : decode cL_lasts 4 = .ok (.invokevirtual 72, 3) := by decide +kernel
theorem dL_lasts_7 : decode cL_lasts 7 = .ok (.i2l, 1) := by decide +kernel
theorem dL_lasts_8 : decode cL_lasts 8 = .ok (.lastore, 1) := by decide +kernel
theorem dL_lasts_9 : decode cL_lasts 9 = .ok (.goto 6, 3) := by decide +kernel
theorem dL_lasts_12 : decode cL_lasts 12 = .ok (.astore_n 3, 1) := by decide +kernel
theorem dL_lasts_13 : decode cL_lasts 13 = .ok (.iconst 1, 1) := by decide +kernel
theorem dL_lasts_14 : decode cL_lasts 14 = .ok (.ireturn, 1) := by decide +kernel
theorem dL_lasts_15 : decode cL_lasts 15 = .ok (.iconst 0, 1) := by decide +kernel
theorem dL_lasts_16 : decode cL_lasts 16 = .ok (.ireturn, 1) := by decide +kernel
theorem dL_law_0 : decode cL_law 0 = .ok (.new 8, 3) := by decide +kernel
theorem dL_law_3 : decode cL_law 3 = .ok (.dup, 1) := by decide +kernel
theorem dL_law_4 : decode cL_law 4 = .ok (.invokespecial 75, 3) := by decide +kernel
theorem dL_law_7 : decode cL_law 7 = .ok (.astore_n 1, 1) := by decide +kernel
theorem dL_law_8 : decode cL_law 8 = .ok (.new 76, 3) := by decide +kernel
theorem dL_law_11 : decode cL_law 11 = .ok (.dup, 1) := by decide +kernel
theorem dL_law_12 : decode cL_law 12 = .ok (.invokespecial 78, 3) := by decide +kernel
theorem dL_law_15 : decode cL_law 15 = .ok (.astore_n 2, 1) := by decide +kernel
theorem dL_law_16 : decode cL_law 16 = .ok (.iconst 1, 1) := by decide +kernel
theorem dL_law_17 : decode cL_law 17 = .ok (.newarray .long, 2) := by decide +kernel
theorem dL_law_19 : decode cL_law 19 = .ok (.astore_n 3, 1) := by decide +kernel
theorem dL_law_20 : decode cL_law 20 = .ok (.iconst 0, 1) := by decide +kernel
theorem dL_law_21 : decode cL_law 21 = .ok (.istore 4, 2) := by decide +kernel
theorem dL_law_23 : decode cL_law 23 = .ok (.iload 4, 2) := by decide +kernel
theorem dL_law_25 : decode cL_law 25 = .ok (.aload_n 0, 1) := by decide +kernel
theorem dL_law_26 : decode cL_law 26 = .ok (.arraylength, 1) := by decide +kernel
theorem dL_law_27 : decode cL_law 27 = .ok (.iconst 3, 1) := by decide +kernel
theorem dL_law_28 : decode cL_law 28 = .ok (.isub, 1) := by decide +kernel
theorem dL_law_29 : decode cL_law 29 = .ok (.if_icmp .gt 1369, 3) := by decide +kernel
theorem dL_law_32 : decode cL_law 32 = .ok (.aload_n 0, 1) := by decide +kernel
theorem dL_law_33 : decode cL_law 33 = .ok (.iload 4, 2) := by decide +kernel
theorem dL_law_35 : decode cL_law 35 = .ok (.iaload, 1) := by decide +kernel
theorem dL_law_36 : decode cL_law 36 = .ok (.bipush 31, 2) := by decide +kernel
theorem dL_law_38 : decode cL_law 38 = .ok (.iand, 1) := by decide +kernel
theorem dL_law_39 : decode cL_law 39 = .ok (.tableswitch 1353 0 21 #[101, 145, 213, 281, 349, 417, 485, 553, 621, 677, 690, 758, 814, 882, 938, 994, 1062, 1118, 1174, 1242, 1298, 1339], 101) := by decide +kernel
theorem dL_law_140 : decode cL_law 140 = .ok (.aload_n 1, 1) := by decide +kernel
theorem dL_law_141 : decode cL_law 141 = .ok (.aload_n 3, 1) := by decide +kernel
theorem dL_law_142 : decode cL_law 142 = .ok (.invokestatic 79, 3) := by decide +kernel
theorem dL_law_145 : decode cL_law 145 = .ok (.istore 5, 2) := by decide +kernel
theorem dL_law_147 : decode cL_law 147 = .ok (.aload_n 2, 1) := by decide +kernel
theorem dL_law_148 : decode cL_law 148 = .ok (.invokevirtual 84, 3) := by decide +kernel
theorem dL_law_151 : decode cL_law 151 = .ok (.istore 6, 2) := by decide +kernel
theorem dL_law_153 : decode cL_law 153 = .ok (.aload_n 2, 1) := by decide +kernel
theorem dL_law_154 : decode cL_law 154 = .ok (.invokevirtual 85, 3) := by decide +kernel
theorem dL_law_157 : decode cL_law 157 = .ok (.iload 5, 2) := by decide +kernel
theorem dL_law_159 : decode cL_law 159 = .ok (.if_icmp .eq 5, 3) := by decide +kernel
theorem dL_law_162 : decode cL_law 162 = .ok (.iconst 0, 1) := by decide +kernel
theorem dL_law_163 : decode cL_law 163 = .ok (.ireturn, 1) := by decide +kernel
theorem dL_law_164 : decode cL_law 164 = .ok (.iload 5, 2) := by decide +kernel
theorem dL_law_166 : decode cL_law 166 = .ok (.ifCond .ne 15, 3) := by decide +kernel
theorem dL_law_169 : decode cL_law 169 = .ok (.aload_n 3, 1) := by decide +kernel
theorem dL_law_170 : decode cL_law 170 = .ok (.iconst 0, 1) := by decide +kernel
theorem dL_law_171 : decode cL_law 171 = .ok (.laload, 1) := by decide +kernel
theorem dL_law_172 : decode cL_law 172 = .ok (.iload 6, 2) := by decide +kernel
theorem dL_law_174 : decode cL_law 174 = .ok (.i2l, 1) := by decide +kernel
theorem dL_law_175 : decode cL_law 175 = .ok (.lcmp, 1) := by decide +kernel
theorem dL_law_176 : decode cL_law 176 = .ok (.ifCond .eq 5, 3) := by decide +kernel
theorem dL_law_179 : decode cL_law 179 = .ok (.iconst 0, 1) := by decide +kernel
theorem dL_law_180 : decode cL_law 180 = .ok (.ireturn, 1) := by decide +kernel
theorem dL_law_181 : decode cL_law 181 = .ok (.goto 1211, 3) := by decide +kernel
theorem dL_law_184 : decode cL_law 184 = .ok (.aload_n 1, 1) := by decide +kernel
theorem dL_law_185 : decode cL_law 185 = .ok (.aload_n 0, 1) := by decide +kernel
theorem dL_law_186 : decode cL_law 186 = .ok (.iload 4, 2) := by decide +kernel
theorem dL_law_188 : decode cL_law 188 = .ok (.iconst 1, 1) := by decide +kernel
theorem dL_law_189 : decode cL_law 189 = .ok (.iadd, 1) := by decide +kernel
theorem dL_law_190 : decode cL_law 190 = .ok (.iaload, 1) := by decide +kernel
theorem dL_law_191 : decode cL_law 191 = .ok (.aload_n 0, 1) := by decide +kernel
theorem dL_law_192 : decode cL_law 192 = .ok (.iload 4, 2) := by decide +kernel
theorem dL_law_194 : decode cL_law 194 = .ok (.iconst 2, 1) := by decide +kernel
theorem dL_law_195 : decode cL_law 195 = .ok (.iadd, 1) := by decide +kernel
theorem dL_law_196 : decode cL_law 196 = .ok (.iaload, 1) := by decide +kernel
theorem dL_law_197 : decode cL_law 197 = .ok (.aload_n 3, 1) := by decide +kernel
theorem dL_law_198 : decode cL_law 198 = .ok (.invokestatic 88, 3) := by decide +kernel
theorem dL_law_201 : decode cL_law 201 = .ok (.istore 5, 2) := by decide +kernel
theorem dL_law_203 : decode cL_law 203 = .ok (.aload_n 2, 1) := by decide +kernel
theorem dL_law_204 : decode cL_law 204 = .ok (.aload_n 0, 1) := by decide +kernel
theorem dL_law_205 : decode cL_law 205 = .ok (.iload 4, 2) := by decide +kernel
theorem dL_law_207 : decode cL_law 207 = .ok (.iconst 1, 1) := by decide +kernel
theorem dL_law_208 : decode cL_law 208 = .ok (.iadd, 1) := by decide +kernel
theorem dL_law_209 : decode cL_law 209 = .ok (.iaload, 1) := by decide +kernel
theorem dL_law_210 : decode cL_law 210 = .ok (.aload_n 0, 1) := by decide +kernel
theorem dL_law_211 : decode cL_law 211 = .ok (.iload 4, 2) := by decide +kernel
theorem dL_law_213 : decode cL_law 213 = .ok (.iconst 2, 1) := by decide +kernel
theorem dL_law_214 : decode cL_law 214 = .ok (.iadd, 1) := by decide +kernel
theorem dL_law_215 : decode cL_law 215 = .ok (.iaload, 1) := by decide +kernel
theorem dL_law_216 : decode cL_law 216 = .ok (.invokevirtual 91, 3) := by decide +kernel
theorem dL_law_219 : decode cL_law 219 = .ok (.istore 6, 2) := by decide +kernel
theorem dL_law_221 : decode cL_law 221 = .ok (.aload_n 2, 1) := by decide +kernel
theorem dL_law_222 : decode cL_law 222 = .ok (.invokevirtual 85, 3) := by decide +kernel
theorem dL_law_225 : decode cL_law 225 = .ok (.iload 5, 2) := by decide +kernel
theorem dL_law_227 : decode cL_law 227 = .ok (.if_icmp .eq 5, 3) := by decide +kernel
theorem dL_law_230 : decode cL_law 230 = .ok (.iconst 0, 1) := by decide +kernel
theorem dL_law_231 : decode cL_law 231 = .ok (.ireturn, 1) := by decide +kernel
theorem dL_law_232 : decode cL_law 232 = .ok (.iload 5, 2) := by decide +kernel
theorem dL_law_234 : decode cL_law 234 = .ok (.ifCond .ne 15, 3) := by decide +kernel
theorem dL_law_237 : decode cL_law 237 = .ok (.aload_n 3, 1) := by decide +kernel
theorem dL_law_238 : decode cL_law 238 = .ok (.iconst 0, 1) := by decide +kernel
theorem dL_law_239 : decode cL_law 239 = .ok (.laload, 1) := by decide +kernel
theorem dL_law_240 : decode cL_law 240 = .ok (.iload 6, 2) := by decide +kernel
theorem dL_law_242 : decode cL_law 242 = .ok (.i2l, 1) := by decide +kernel
theorem dL_law_243 : decode cL_law 243 = .ok (.lcmp, 1) := by decide +kernel
theorem dL_law_244 : decode cL_law 244 = .ok (.ifCond .eq 5, 3) := by decide +kernel
theorem dL_law_247 : decode cL_law 247 = .ok (.iconst 0, 1) := by decide +kernel
theorem dL_law_248 : decode cL_law 248 = .ok (.ireturn, 1) := by decide +kernel
theorem dL_law_249 : decode cL_law 249 = .ok (.goto 1143, 3) := by decide +kernel
theorem dL_law_252 : decode cL_law 252 = .ok (.aload_n 1, 1) := by decide +kernel
theorem dL_law_253 : decode cL_law 253 = .ok (.aload_n 0, 1) := by decide +kernel
theorem dL_law_254 : decode cL_law 254 = .ok (.iload 4, 2) := by decide +kernel
theorem dL_law_256 : decode cL_law 256 = .ok (.iconst 1, 1) := by decide +kernel
theorem dL_law_257 : decode cL_law 257 = .ok (.iadd, 1) := by decide +kernel
theorem dL_law_258 : decode cL_law 258 = .ok (.iaload, 1) := by decide +kernel
theorem dL_law_259 : decode cL_law 259 = .ok (.aload_n 0, 1) := by decide +kernel
theorem dL_law_260 : decode cL_law 260 = .ok (.iload 4, 2) := by decide +kernel
theorem dL_law_262 : decode cL_law 262 = .ok (.iconst 2, 1) := by decide +kernel
theorem dL_law_263 : decode cL_law 263 = .ok (.iadd, 1) := by decide +kernel
theorem dL_law_264 : decode cL_law 264 = .ok (.iaload, 1) := by decide +kernel
theorem dL_law_265 : decode cL_law 265 = .ok (.aload_n 3, 1) := by decide +kernel
theorem dL_law_266 : decode cL_law 266 = .ok (.invokestatic 92, 3) := by decide +kernel
theorem dL_law_269 : decode cL_law 269 = .ok (.istore 5, 2) := by decide +kernel
theorem dL_law_271 : decode cL_law 271 = .ok (.aload_n 2, 1) := by decide +kernel
theorem dL_law_272 : decode cL_law 272 = .ok (.aload_n 0, 1) := by decide +kernel
theorem dL_law_273 : decode cL_law 273 = .ok (.iload 4, 2) := by decide +kernel
theorem dL_law_275 : decode cL_law 275 = .ok (.iconst 1, 1) := by decide +kernel
theorem dL_law_276 : decode cL_law 276 = .ok (.iadd, 1) := by decide +kernel
theorem dL_law_277 : decode cL_law 277 = .ok (.iaload, 1) := by decide +kernel
theorem dL_law_278 : decode cL_law 278 = .ok (.aload_n 0, 1) := by decide +kernel
theorem dL_law_279 : decode cL_law 279 = .ok (.iload 4, 2) := by decide +kernel
theorem dL_law_281 : decode cL_law 281 = .ok (.iconst 2, 1) := by decide +kernel
theorem dL_law_282 : decode cL_law 282 = .ok (.iadd, 1) := by decide +kernel
theorem dL_law_283 : decode cL_law 283 = .ok (.iaload, 1) := by decide +kernel
theorem dL_law_284 : decode cL_law 284 = .ok (.invokevirtual 94, 3) := by decide +kernel
theorem dL_law_287 : decode cL_law 287 = .ok (.istore 6, 2) := by decide +kernel
theorem dL_law_289 : decode cL_law 289 = .ok (.aload_n 2, 1) := by decide +kernel
theorem dL_law_290 : decode cL_law 290 = .ok (.invokevirtual 85, 3) := by decide +kernel
theorem dL_law_293 : decode cL_law 293 = .ok (.iload 5, 2) := by decide +kernel
theorem dL_law_295 : decode cL_law 295 = .ok (.if_icmp .eq 5, 3) := by decide +kernel
theorem dL_law_298 : decode cL_law 298 = .ok (.iconst 0, 1) := by decide +kernel
theorem dL_law_299 : decode cL_law 299 = .ok (.ireturn, 1) := by decide +kernel
theorem dL_law_300 : decode cL_law 300 = .ok (.iload 5, 2) := by decide +kernel
theorem dL_law_302 : decode cL_law 302 = .ok (.ifCond .ne 15, 3) := by decide +kernel
theorem dL_law_305 : decode cL_law 305 = .ok (.aload_n 3, 1) := by decide +kernel
theorem dL_law_306 : decode cL_law 306 = .ok (.iconst 0, 1) := by decide +kernel
theorem dL_law_307 : decode cL_law 307 = .ok (.laload, 1) := by decide +kernel
theorem dL_law_308 : decode cL_law 308 = .ok (.iload 6, 2) := by decide +kernel
theorem dL_law_310 : decode cL_law 310 = .ok (.i2l, 1) := by decide +kernel
theorem dL_law_311 : decode cL_law 311 = .ok (.lcmp, 1) := by decide +kernel
theorem dL_law_312 : decode cL_law 312 = .ok (.ifCond .eq 5, 3) := by decide +kernel
theorem dL_law_315 : decode cL_law 315 = .ok (.iconst 0, 1) := by decide +kernel
theorem dL_law_316 : decode cL_law 316 = .ok (.ireturn, 1) := by decide +kernel
theorem dL_law_317 : decode cL_law 317 = .ok (.goto 1075, 3) := by decide +kernel
theorem dL_law_320 : decode cL_law 320 = .ok (.aload_n 1, 1) := by decide +kernel
theorem dL_law_321 : decode cL_law 321 = .ok (.aload_n 0, 1) := by decide +kernel
theorem dL_law_322 : decode cL_law 322 = .ok (.iload 4, 2) := by decide +kernel
theorem dL_law_324 : decode cL_law 324 = .ok (.iconst 1, 1) := by decide +kernel
theorem dL_law_325 : decode cL_law 325 = .ok (.iadd, 1) := by decide +kernel
theorem dL_law_326 : decode cL_law 326 = .ok (.iaload, 1) := by decide +kernel
theorem dL_law_327 : decode cL_law 327 = .ok (.aload_n 0, 1) := by decide +kernel
theorem dL_law_328 : decode cL_law 328 = .ok (.iload 4, 2) := by decide +kernel
theorem dL_law_330 : decode cL_law 330 = .ok (.iconst 2, 1) := by decide +kernel
theorem dL_law_331 : decode cL_law 331 = .ok (.iadd, 1) := by decide +kernel
theorem dL_law_332 : decode cL_law 332 = .ok (.iaload, 1) := by decide +kernel
theorem dL_law_333 : decode cL_law 333 = .ok (.aload_n 3, 1) := by decide +kernel
theorem dL_law_334 : decode cL_law 334 = .ok (.invokestatic 95, 3) := by decide +kernel
theorem dL_law_337 : decode cL_law 337 = .ok (.istore 5, 2) := by decide +kernel
theorem dL_law_339 : decode cL_law 339 = .ok (.aload_n 2, 1) := by decide +kernel
theorem dL_law_340 : decode cL_law 340 = .ok (.aload_n 0, 1) := by decide +kernel
theorem dL_law_341 : decode cL_law 341 = .ok (.iload 4, 2) := by decide +kernel
theorem dL_law_343 : decode cL_law 343 = .ok (.iconst 1, 1) := by decide +kernel
theorem dL_law_344 : decode cL_law 344 = .ok (.iadd, 1) := by decide +kernel
theorem dL_law_345 : decode cL_law 345 = .ok (.iaload, 1) := by decide +kernel
theorem dL_law_346 : decode cL_law 346 = .ok (.aload_n 0, 1) := by decide +kernel
theorem dL_law_347 : decode cL_law 347 = .ok (.iload 4, 2) := by decide +kernel
theorem dL_law_349 : decode cL_law 349 = .ok (.iconst 2, 1) := by decide +kernel
theorem dL_law_350 : decode cL_law 350 = .ok (.iadd, 1) := by decide +kernel
theorem dL_law_351 : decode cL_law 351 = .ok (.iaload, 1) := by decide +kernel
theorem dL_law_352 : decode cL_law 352 = .ok (.invokevirtual 97, 3) := by decide +kernel
theorem dL_law_355 : decode cL_law 355 = .ok (.istore 6, 2) := by decide +kernel
theorem dL_law_357 : decode cL_law 357 = .ok (.aload_n 2, 1) := by decide +kernel
theorem dL_law_358 : decode cL_law 358 = .ok (.invokevirtual 85, 3) := by decide +kernel
theorem dL_law_361 : decode cL_law 361 = .ok (.iload 5, 2) := by decide +kernel
theorem dL_law_363 : decode cL_law 363 = .ok (.if_icmp .eq 5, 3) := by decide +kernel
theorem dL_law_366 : decode cL_law 366 = .ok (.iconst 0, 1) := by decide +kernel
theorem dL_law_367 : decode cL_law 367 = .ok (.ireturn, 1) := by decide +kernel
theorem dL_law_368 : decode cL_law 368 = .ok (.iload 5, 2) := by decide +kernel
theorem dL_law_370 : decode cL_law 370 = .ok (.ifCond .ne 15, 3) := by decide +kernel
theorem dL_law_373 : decode cL_law 373 = .ok (.aload_n 3, 1) := by decide +kernel
theorem dL_law_374 : decode cL_law 374 = .ok (.iconst 0, 1) := by decide +kernel
theorem dL_law_375 : decode cL_law 375 = .ok (.laload, 1) := by decide +kernel
theorem dL_law_376 : decode cL_law 376 = .ok (.iload 6, 2) := by decide +kernel
theorem dL_law_378 : decode cL_law 378 = .ok (.i2l, 1) := by decide +kernel
theorem dL_law_379 : decode cL_law 379 = .ok (.lcmp, 1) := by decide +kernel
theorem dL_law_380 : decode cL_law 380 = .ok (.ifCond .eq 5, 3) := by decide +kernel
theorem dL_law_383 : decode cL_law 383 = .ok (.iconst 0, 1) := by decide +kernel
theorem dL_law_384 : decode cL_law 384 = .ok (.ireturn, 1) := by decide +kernel
theorem dL_law_385 : decode cL_law 385 = .ok (.goto 1007, 3) := by decide +kernel
theorem dL_law_388 : decode cL_law 388 = .ok (.aload_n 1, 1) := by decide +kernel
theorem dL_law_389 : decode cL_law 389 = .ok (.aload_n 0, 1) := by decide +kernel
theorem dL_law_390 : decode cL_law 390 = .ok (.iload 4, 2) := by decide +kernel
theorem dL_law_392 : decode cL_law 392 = .ok (.iconst 1, 1) := by decide +kernel
theorem dL_law_393 : decode cL_law 393 = .ok (.iadd, 1) := by decide +kernel
theorem dL_law_394 : decode cL_law 394 = .ok (.iaload, 1) := by decide +kernel
theorem dL_law_395 : decode cL_law 395 = .ok (.aload_n 0, 1) := by decide +kernel
theorem dL_law_396 : decode cL_law 396 = .ok (.iload 4, 2) := by decide +kernel
theorem dL_law_398 : decode cL_law 398 = .ok (.iconst 2, 1) := by decide +kernel
theorem dL_law_399 : decode cL_law 399 = .ok (.iadd, 1) := by decide +kernel
theorem dL_law_400 : decode cL_law 400 = .ok (.iaload, 1) := by decide +kernel
theorem dL_law_401 : decode cL_law 401 = .ok (.aload_n 3, 1) := by decide +kernel
theorem dL_law_402 : decode cL_law 402 = .ok (.invokestatic 98, 3) := by decide +kernel
theorem dL_law_405 : decode cL_law 405 = .ok (.istore 5, 2) := by decide +kernel
theorem dL_law_407 : decode cL_law 407 = .ok (.aload_n 2, 1) := by decide +kernel
theorem dL_law_408 : decode cL_law 408 = .ok (.aload_n 0, 1) := by decide +kernel
theorem dL_law_409 : decode cL_law 409 = .ok (.iload 4, 2) := by decide +kernel
theorem dL_law_411 : decode cL_law 411 = .ok (.iconst 1, 1) := by decide +kernel
theorem dL_law_412 : decode cL_law 412 = .ok (.iadd, 1) := by decide +kernel
theorem dL_law_413 : decode cL_law 413 = .ok (.iaload, 1) := by decide +kernel
theorem dL_law_414 : decode cL_law 414 = .ok (.aload_n 0, 1) := by decide +kernel
theorem dL_law_415 : decode cL_law 415 = .ok (.iload 4, 2) := by decide +kernel
theorem dL_law_417 : decode cL_law 417 = .ok (.iconst 2, 1) := by decide +kernel
theorem dL_law_418 : decode cL_law 418 = .ok (.iadd, 1) := by decide +kernel
theorem dL_law_419 : decode cL_law 419 = .ok (.iaload, 1) := by decide +kernel
theorem dL_law_420 : decode cL_law 420 = .ok (.invokevirtual 100, 3) := by decide +kernel
theorem dL_law_423 : decode cL_law 423 = .ok (.istore 6, 2) := by decide +kernel
theorem dL_law_425 : decode cL_law 425 = .ok (.aload_n 2, 1) := by decide +kernel
theorem dL_law_426 : decode cL_law 426 = .ok (.invokevirtual 85, 3) := by decide +kernel
theorem dL_law_429 : decode cL_law 429 = .ok (.iload 5, 2) := by decide +kernel
theorem dL_law_431 : decode cL_law 431 = .ok (.if_icmp .eq 5, 3) := by decide +kernel
theorem dL_law_434 : decode cL_law 434 = .ok (.iconst 0, 1) := by decide +kernel
theorem dL_law_435 : decode cL_law 435 = .ok (.ireturn, 1) := by decide +kernel
theorem dL_law_436 : decode cL_law 436 = .ok (.iload 5, 2) := by decide +kernel
theorem dL_law_438 : decode cL_law 438 = .ok (.ifCond .ne 15, 3) := by decide +kernel
theorem dL_law_441 : decode cL_law 441 = .ok (.aload_n 3, 1) := by decide +kernel
theorem dL_law_442 : decode cL_law 442 = .ok (.iconst 0, 1) := by decide +kernel
theorem dL_law_443 : decode cL_law 443 = .ok (.laload, 1) := by decide +kernel
theorem dL_law_444 : decode cL_law 444 = .ok (.iload 6, 2) := by decide +kernel
theorem dL_law_446 : decode cL_law 446 = .ok (.i2l, 1) := by decide +kernel
theorem dL_law_447 : decode cL_law 447 = .ok (.lcmp, 1) := by decide +kernel
theorem dL_law_448 : decode cL_law 448 = .ok (.ifCond .eq 5, 3) := by decide +kernel
theorem dL_law_451 : decode cL_law 451 = .ok (.iconst 0, 1) := by decide +kernel
theorem dL_law_452 : decode cL_law 452 = .ok (.ireturn, 1) := by decide +kernel
theorem dL_law_453 : decode cL_law 453 = .ok (.goto 939, 3) := by decide +kernel
theorem dL_law_456 : decode cL_law 456 = .ok (.aload_n 1, 1) := by decide +kernel
theorem dL_law_457 : decode cL_law 457 = .ok (.aload_n 0, 1) := by decide +kernel
theorem dL_law_458 : decode cL_law 458 = .ok (.iload 4, 2) := by decide +kernel
theorem dL_law_460 : decode cL_law 460 = .ok (.iconst 1, 1) := by decide +kernel
theorem dL_law_461 : decode cL_law 461 = .ok (.iadd, 1) := by decide +kernel
theorem dL_law_462 : decode cL_law 462 = .ok (.iaload, 1) := by decide +kernel
theorem dL_law_463 : decode cL_law 463 = .ok (.aload_n 0, 1) := by decide +kernel
theorem dL_law_464 : decode cL_law 464 = .ok (.iload 4, 2) := by decide +kernel
theorem dL_law_466 : decode cL_law 466 = .ok (.iconst 2, 1) := by decide +kernel
theorem dL_law_467 : decode cL_law 467 = .ok (.iadd, 1) := by decide +kernel
theorem dL_law_468 : decode cL_law 468 = .ok (.iaload, 1) := by decide +kernel
theorem dL_law_469 : decode cL_law 469 = .ok (.aload_n 3, 1) := by decide +kernel
theorem dL_law_470 : decode cL_law 470 = .ok (.invokestatic 101, 3) := by decide +kernel
theorem dL_law_473 : decode cL_law 473 = .ok (.istore 5, 2) := by decide +kernel
theorem dL_law_475 : decode cL_law 475 = .ok (.aload_n 2, 1) := by decide +kernel
theorem dL_law_476 : decode cL_law 476 = .ok (.aload_n 0, 1) := by decide +kernel
theorem dL_law_477 : decode cL_law 477 = .ok (.iload 4, 2) := by decide +kernel
theorem dL_law_479 : decode cL_law 479 = .ok (.iconst 1, 1) := by decide +kernel
theorem dL_law_480 : decode cL_law 480 = .ok (.iadd, 1) := by decide +kernel
theorem dL_law_481 : decode cL_law 481 = .ok (.iaload, 1) := by decide +kernel
theorem dL_law_482 : decode cL_law 482 = .ok (.aload_n 0, 1) := by decide +kernel
theorem dL_law_483 : decode cL_law 483 = .ok (.iload 4, 2) := by decide +kernel
theorem dL_law_485 : decode cL_law 485 = .ok (.iconst 2, 1) := by decide +kernel
theorem dL_law_486 : decode cL_law 486 = .ok (.iadd, 1) := by decide +kernel
theorem dL_law_487 : decode cL_law 487 = .ok (.iaload, 1) := by decide +kernel
theorem dL_law_488 : decode cL_law 488 = .ok (.invokevirtual 103, 3) := by decide +kernel
theorem dL_law_491 : decode cL_law 491 = .ok (.istore 6, 2) := by decide +kernel
theorem dL_law_493 : decode cL_law 493 = .ok (.aload_n 2, 1) := by decide +kernel
theorem dL_law_494 : decode cL_law 494 = .ok (.invokevirtual 85, 3) := by decide +kernel
theorem dL_law_497 : decode cL_law 497 = .ok (.iload 5, 2) := by decide +kernel
theorem dL_law_499 : decode cL_law 499 = .ok (.if_icmp .eq 5, 3) := by decide +kernel
theorem dL_law_502 : decode cL_law 502 = .ok (.iconst 0, 1) := by decide +kernel
theorem dL_law_503 : decode cL_law 503 = .ok (.ireturn, 1) := by decide +kernel
theorem dL_law_504 : decode cL_law 504 = .ok (.iload 5, 2) := by decide +kernel
theorem dL_law_506 : decode cL_law 506 = .ok (.ifCond .ne 15, 3) := by decide +kernel
theorem dL_law_509 : decode cL_law 509 = .ok (.aload_n 3, 1) := by decide +kernel
theorem dL_law_510 : decode cL_law 510 = .ok (.iconst 0, 1) := by decide +kernel
theorem dL_law_511 : decode cL_law 511 = .ok (.laload, 1) := by decide +kernel
theorem dL_law_512 : decode cL_law 512 = .ok (.iload 6, 2) := by decide +kernel
theorem dL_law_514 : decode cL_law 514 = .ok (.i2l, 1) := by decide +kernel
theorem dL_law_515 : decode cL_law 515 = .ok (.lcmp, 1) := by decide +kernel
theorem dL_law_516 : decode cL_law 516 = .ok (.ifCond .eq 5, 3) := by decide +kernel
theorem dL_law_519 : decode cL_law 519 = .ok (.iconst 0, 1) := by decide +kernel
theorem dL_law_520 : decode cL_law 520 = .ok (.ireturn, 1) := by decide +kernel
theorem dL_law_521 : decode cL_law 521 = .ok (.goto 871, 3) := by decide +kernel
theorem dL_law_524 : decode cL_law 524 = .ok (.aload_n 1, 1) := by decide +kernel
theorem dL_law_525 : decode cL_law 525 = .ok (.aload_n 0, 1) := by decide +kernel
theorem dL_law_526 : decode cL_law 526 = .ok (.iload 4, 2) := by decide +kernel
theorem dL_law_528 : decode cL_law 528 = .ok (.iconst 1, 1) := by decide +kernel
theorem dL_law_529 : decode cL_law 529 = .ok (.iadd, 1) := by decide +kernel
theorem dL_law_530 : decode cL_law 530 = .ok (.iaload, 1) := by decide +kernel
theorem dL_law_531 : decode cL_law 531 = .ok (.aload_n 0, 1) := by decide +kernel
theorem dL_law_532 : decode cL_law 532 = .ok (.iload 4, 2) := by decide +kernel
theorem dL_law_534 : decode cL_law 534 = .ok (.iconst 2, 1) := by decide +kernel
theorem dL_law_535 : decode cL_law 535 = .ok (.iadd, 1) := by decide +kernel
theorem dL_law_536 : decode cL_law 536 = .ok (.iaload, 1) := by decide +kernel
theorem dL_law_537 : decode cL_law 537 = .ok (.aload_n 3, 1) := by decide +kernel
theorem dL_law_538 : decode cL_law 538 = .ok (.invokestatic 104, 3) := by decide +kernel
theorem dL_law_541 : decode cL_law 541 = .ok (.istore 5, 2) := by decide +kernel
theorem dL_law_543 : decode cL_law 543 = .ok (.aload_n 2, 1) := by decide +kernel
theorem dL_law_544 : decode cL_law 544 = .ok (.aload_n 0, 1) := by decide +kernel
theorem dL_law_545 : decode cL_law 545 = .ok (.iload 4, 2) := by decide +kernel
theorem dL_law_547 : decode cL_law 547 = .ok (.iconst 1, 1) := by decide +kernel
theorem dL_law_548 : decode cL_law 548 = .ok (.iadd, 1) := by decide +kernel
theorem dL_law_549 : decode cL_law 549 = .ok (.iaload, 1) := by decide +kernel
theorem dL_law_550 : decode cL_law 550 = .ok (.aload_n 0, 1) := by decide +kernel
theorem dL_law_551 : decode cL_law 551 = .ok (.iload 4, 2) := by decide +kernel
theorem dL_law_553 : decode cL_law 553 = .ok (.iconst 2, 1) := by decide +kernel
theorem dL_law_554 : decode cL_law 554 = .ok (.iadd, 1) := by decide +kernel
theorem dL_law_555 : decode cL_law 555 = .ok (.iaload, 1) := by decide +kernel
theorem dL_law_556 : decode cL_law 556 = .ok (.invokevirtual 106, 3) := by decide +kernel
theorem dL_law_559 : decode cL_law 559 = .ok (.istore 6, 2) := by decide +kernel
theorem dL_law_561 : decode cL_law 561 = .ok (.aload_n 2, 1) := by decide +kernel
theorem dL_law_562 : decode cL_law 562 = .ok (.invokevirtual 85, 3) := by decide +kernel
theorem dL_law_565 : decode cL_law 565 = .ok (.iload 5, 2) := by decide +kernel
theorem dL_law_567 : decode cL_law 567 = .ok (.if_icmp .eq 5, 3) := by decide +kernel
theorem dL_law_570 : decode cL_law 570 = .ok (.iconst 0, 1) := by decide +kernel
theorem dL_law_571 : decode cL_law 571 = .ok (.ireturn, 1) := by decide +kernel
theorem dL_law_572 : decode cL_law 572 = .ok (.iload 5, 2) := by decide +kernel
theorem dL_law_574 : decode cL_law 574 = .ok (.ifCond .ne 15, 3) := by decide +kernel
theorem dL_law_577 : decode cL_law 577 = .ok (.aload_n 3, 1) := by decide +kernel
theorem dL_law_578 : decode cL_law 578 = .ok (.iconst 0, 1) := by decide +kernel
theorem dL_law_579 : decode cL_law 579 = .ok (.laload, 1) := by decide +kernel
theorem dL_law_580 : decode cL_law 580 = .ok (.iload 6, 2) := by decide +kernel
theorem dL_law_582 : decode cL_law 582 = .ok (.i2l, 1) := by decide +kernel
theorem dL_law_583 : decode cL_law 583 = .ok (.lcmp, 1) := by decide +kernel
theorem dL_law_584 : decode cL_law 584 = .ok (.ifCond .eq 5, 3) := by decide +kernel
theorem dL_law_587 : decode cL_law 587 = .ok (.iconst 0, 1) := by decide +kernel
theorem dL_law_588 : decode cL_law 588 = .ok (.ireturn, 1) := by decide +kernel
theorem dL_law_589 : decode cL_law 589 = .ok (.goto 803, 3) := by decide +kernel
theorem dL_law_592 : decode cL_law 592 = .ok (.aload_n 1, 1) := by decide +kernel
theorem dL_law_593 : decode cL_law 593 = .ok (.aload_n 0, 1) := by decide +kernel
theorem dL_law_594 : decode cL_law 594 = .ok (.iload 4, 2) := by decide +kernel
theorem dL_law_596 : decode cL_law 596 = .ok (.iconst 1, 1) := by decide +kernel
theorem dL_law_597 : decode cL_law 597 = .ok (.iadd, 1) := by decide +kernel
theorem dL_law_598 : decode cL_law 598 = .ok (.iaload, 1) := by decide +kernel
theorem dL_law_599 : decode cL_law 599 = .ok (.aload_n 0, 1) := by decide +kernel
theorem dL_law_600 : decode cL_law 600 = .ok (.iload 4, 2) := by decide +kernel
theorem dL_law_602 : decode cL_law 602 = .ok (.iconst 2, 1) := by decide +kernel
theorem dL_law_603 : decode cL_law 603 = .ok (.iadd, 1) := by decide +kernel
theorem dL_law_604 : decode cL_law 604 = .ok (.iaload, 1) := by decide +kernel
theorem dL_law_605 : decode cL_law 605 = .ok (.aload_n 3, 1) := by decide +kernel
theorem dL_law_606 : decode cL_law 606 = .ok (.invokestatic 107, 3) := by decide +kernel
theorem dL_law_609 : decode cL_law 609 = .ok (.istore 5, 2) := by decide +kernel
theorem dL_law_611 : decode cL_law 611 = .ok (.aload_n 2, 1) := by decide +kernel
theorem dL_law_612 : decode cL_law 612 = .ok (.aload_n 0, 1) := by decide +kernel
theorem dL_law_613 : decode cL_law 613 = .ok (.iload 4, 2) := by decide +kernel
theorem dL_law_615 : decode cL_law 615 = .ok (.iconst 1, 1) := by decide +kernel
theorem dL_law_616 : decode cL_law 616 = .ok (.iadd, 1) := by decide +kernel
theorem dL_law_617 : decode cL_law 617 = .ok (.iaload, 1) := by decide +kernel
theorem dL_law_618 : decode cL_law 618 = .ok (.aload_n 0, 1) := by decide +kernel
theorem dL_law_619 : decode cL_law 619 = .ok (.iload 4, 2) := by decide +kernel
theorem dL_law_621 : decode cL_law 621 = .ok (.iconst 2, 1) := by decide +kernel
theorem dL_law_622 : decode cL_law 622 = .ok (.iadd, 1) := by decide +kernel
theorem dL_law_623 : decode cL_law 623 = .ok (.iaload, 1) := by decide +kernel
theorem dL_law_624 : decode cL_law 624 = .ok (.invokevirtual 109, 3) := by decide +kernel
theorem dL_law_627 : decode cL_law 627 = .ok (.istore 6, 2) := by decide +kernel
theorem dL_law_629 : decode cL_law 629 = .ok (.aload_n 2, 1) := by decide +kernel
theorem dL_law_630 : decode cL_law 630 = .ok (.invokevirtual 85, 3) := by decide +kernel
theorem dL_law_633 : decode cL_law 633 = .ok (.iload 5, 2) := by decide +kernel
theorem dL_law_635 : decode cL_law 635 = .ok (.if_icmp .eq 5, 3) := by decide +kernel
theorem dL_law_638 : decode cL_law 638 = .ok (.iconst 0, 1) := by decide +kernel
theorem dL_law_639 : decode cL_law 639 = .ok (.ireturn, 1) := by decide +kernel
theorem dL_law_640 : decode cL_law 640 = .ok (.iload 5, 2) := by decide +kernel
theorem dL_law_642 : decode cL_law 642 = .ok (.ifCond .ne 15, 3) := by decide +kernel
theorem dL_law_645 : decode cL_law 645 = .ok (.aload_n 3, 1) := by decide +kernel
theorem dL_law_646 : decode cL_law 646 = .ok (.iconst 0, 1) := by decide +kernel
theorem dL_law_647 : decode cL_law 647 = .ok (.laload, 1) := by decide +kernel
theorem dL_law_648 : decode cL_law 648 = .ok (.iload 6, 2) := by decide +kernel
theorem dL_law_650 : decode cL_law 650 = .ok (.i2l, 1) := by decide +kernel
theorem dL_law_651 : decode cL_law 651 = .ok (.lcmp, 1) := by decide +kernel
theorem dL_law_652 : decode cL_law 652 = .ok (.ifCond .eq 5, 3) := by decide +kernel
theorem dL_law_655 : decode cL_law 655 = .ok (.iconst 0, 1) := by decide +kernel
theorem dL_law_656 : decode cL_law 656 = .ok (.ireturn, 1) := by decide +kernel
theorem dL_law_657 : decode cL_law 657 = .ok (.goto 735, 3) := by decide +kernel
theorem dL_law_660 : decode cL_law 660 = .ok (.aload_n 1, 1) := by decide +kernel
theorem dL_law_661 : decode cL_law 661 = .ok (.aload_n 0, 1) := by decide +kernel
theorem dL_law_662 : decode cL_law 662 = .ok (.iload 4, 2) := by decide +kernel
theorem dL_law_664 : decode cL_law 664 = .ok (.iconst 1, 1) := by decide +kernel
theorem dL_law_665 : decode cL_law 665 = .ok (.iadd, 1) := by decide +kernel
theorem dL_law_666 : decode cL_law 666 = .ok (.iaload, 1) := by decide +kernel
theorem dL_law_667 : decode cL_law 667 = .ok (.aload_n 3, 1) := by decide +kernel
theorem dL_law_668 : decode cL_law 668 = .ok (.invokestatic 110, 3) := by decide +kernel
theorem dL_law_671 : decode cL_law 671 = .ok (.istore 5, 2) := by decide +kernel
theorem dL_law_673 : decode cL_law 673 = .ok (.aload_n 2, 1) := by decide +kernel
theorem dL_law_674 : decode cL_law 674 = .ok (.aload_n 0, 1) := by decide +kernel
theorem dL_law_675 : decode cL_law 675 = .ok (.iload 4, 2) := by decide +kernel
theorem dL_law_677 : decode cL_law 677 = .ok (.iconst 1, 1) := by decide +kernel
theorem dL_law_678 : decode cL_law 678 = .ok (.iadd, 1) := by decide +kernel
theorem dL_law_679 : decode cL_law 679 = .ok (.iaload, 1) := by decide +kernel
theorem dL_law_680 : decode cL_law 680 = .ok (.invokevirtual 113, 3) := by decide +kernel
theorem dL_law_683 : decode cL_law 683 = .ok (.istore 6, 2) := by decide +kernel
theorem dL_law_685 : decode cL_law 685 = .ok (.aload_n 2, 1) := by decide +kernel
theorem dL_law_686 : decode cL_law 686 = .ok (.invokevirtual 85, 3) := by decide +kernel
theorem dL_law_689 : decode cL_law 689 = .ok (.iload 5, 2) := by decide +kernel
theorem dL_law_691 : decode cL_law 691 = .ok (.if_icmp .eq 5, 3) := by decide +kernel
theorem dL_law_694 : decode cL_law 694 = .ok (.iconst 0, 1) := by decide +kernel
theorem dL_law_695 : decode cL_law 695 = .ok (.ireturn, 1) := by decide +kernel
theorem dL_law_696 : decode cL_law 696 = .ok (.iload 5, 2) := by decide +kernel
theorem dL_law_698 : decode cL_law 698 = .ok (.ifCond .ne 15, 3) := by decide +kernel
theorem dL_law_701 : decode cL_law 701 = .ok (.aload_n 3, 1) := by decide +kernel
theorem dL_law_702 : decode cL_law 702 = .ok (.iconst 0, 1) := by decide +kernel
theorem dL_law_703 : decode cL_law 703 = .ok (.laload, 1) := by decide +kernel
theorem dL_law_704 : decode cL_law 704 = .ok (.iload 6, 2) := by decide +kernel
theorem dL_law_706 : decode cL_law 706 = .ok (.i2l, 1) := by decide +kernel
theorem dL_law_707 : decode cL_law 707 = .ok (.lcmp, 1) := by decide +kernel
theorem dL_law_708 : decode cL_law 708 = .ok (.ifCond .eq 5, 3) := by decide +kernel
theorem dL_law_711 : decode cL_law 711 = .ok (.iconst 0, 1) := by decide +kernel
theorem dL_law_712 : decode cL_law 712 = .ok (.ireturn, 1) := by decide +kernel
theorem dL_law_713 : decode cL_law 713 = .ok (.goto 679, 3) := by decide +kernel
theorem dL_law_716 : decode cL_law 716 = .ok (.aload_n 1, 1) := by decide +kernel
theorem dL_law_717 : decode cL_law 717 = .ok (.invokevirtual 114, 3) := by decide +kernel
theorem dL_law_720 : decode cL_law 720 = .ok (.aload_n 2, 1) := by decide +kernel
theorem dL_law_721 : decode cL_law 721 = .ok (.invokevirtual 117, 3) := by decide +kernel
theorem dL_law_724 : decode cL_law 724 = .ok (.if_icmp .eq 668, 3) := by decide +kernel
theorem dL_law_727 : decode cL_law 727 = .ok (.iconst 0, 1) := by decide +kernel
theorem dL_law_728 : decode cL_law 728 = .ok (.ireturn, 1) := by decide +kernel
theorem dL_law_729 : decode cL_law 729 = .ok (.aload_n 1, 1) := by decide +kernel
theorem dL_law_730 : decode cL_law 730 = .ok (.aload_n 0, 1) := by decide +kernel
theorem dL_law_731 : decode cL_law 731 = .ok (.iload 4, 2) := by decide +kernel
theorem dL_law_733 : decode cL_law 733 = .ok (.iconst 1, 1) := by decide +kernel
theorem dL_law_734 : decode cL_law 734 = .ok (.iadd, 1) := by decide +kernel
theorem dL_law_735 : decode cL_law 735 = .ok (.iaload, 1) := by decide +kernel
theorem dL_law_736 : decode cL_law 736 = .ok (.aload_n 0, 1) := by decide +kernel
theorem dL_law_737 : decode cL_law 737 = .ok (.iload 4, 2) := by decide +kernel
theorem dL_law_739 : decode cL_law 739 = .ok (.iconst 2, 1) := by decide +kernel
theorem dL_law_740 : decode cL_law 740 = .ok (.iadd, 1) := by decide +kernel
theorem dL_law_741 : decode cL_law 741 = .ok (.iaload, 1) := by decide +kernel
theorem dL_law_742 : decode cL_law 742 = .ok (.aload_n 3, 1) := by decide +kernel
theorem dL_law_743 : decode cL_law 743 = .ok (.invokestatic 118, 3) := by decide +kernel
theorem dL_law_746 : decode cL_law 746 = .ok (.istore 5, 2) := by decide +kernel
theorem dL_law_748 : decode cL_law 748 = .ok (.aload_n 2, 1) := by decide +kernel
theorem dL_law_749 : decode cL_law 749 = .ok (.aload_n 0, 1) := by decide +kernel
theorem dL_law_750 : decode cL_law 750 = .ok (.iload 4, 2) := by decide +kernel
theorem dL_law_752 : decode cL_law 752 = .ok (.iconst 1, 1) := by decide +kernel
theorem dL_law_753 : decode cL_law 753 = .ok (.iadd, 1) := by decide +kernel
theorem dL_law_754 : decode cL_law 754 = .ok (.iaload, 1) := by decide +kernel
theorem dL_law_755 : decode cL_law 755 = .ok (.aload_n 0, 1) := by decide +kernel
theorem dL_law_756 : decode cL_law 756 = .ok (.iload 4, 2) := by decide +kernel
theorem dL_law_758 : decode cL_law 758 = .ok (.iconst 2, 1) := by decide +kernel
theorem dL_law_759 : decode cL_law 759 = .ok (.iadd, 1) := by decide +kernel
theorem dL_law_760 : decode cL_law 760 = .ok (.iaload, 1) := by decide +kernel
theorem dL_law_761 : decode cL_law 761 = .ok (.invokevirtual 120, 3) := by decide +kernel
theorem dL_law_764 : decode cL_law 764 = .ok (.istore 6, 2) := by decide +kernel
theorem dL_law_766 : decode cL_law 766 = .ok (.aload_n 2, 1) := by decide +kernel
theorem dL_law_767 : decode cL_law 767 = .ok (.invokevirtual 85, 3) := by decide +kernel
theorem dL_law_770 : decode cL_law 770 = .ok (.iload 5, 2) := by decide +kernel
theorem dL_law_772 : decode cL_law 772 = .ok (.if_icmp .eq 5, 3) := by decide +kernel
theorem dL_law_775 : decode cL_law 775 = .ok (.iconst 0, 1) := by decide +kernel
theorem dL_law_776 : decode cL_law 776 = .ok (.ireturn, 1) := by decide +kernel
theorem dL_law_777 : decode cL_law 777 = .ok (.iload 5, 2) := by decide +kernel
theorem dL_law_779 : decode cL_law 779 = .ok (.ifCond .ne 15, 3) := by decide +kernel
theorem dL_law_782 : decode cL_law 782 = .ok (.aload_n 3, 1) := by decide +kernel
theorem dL_law_783 : decode cL_law 783 = .ok (.iconst 0, 1) := by decide +kernel
theorem dL_law_784 : decode cL_law 784 = .ok (.laload, 1) := by decide +kernel
theorem dL_law_785 : decode cL_law 785 = .ok (.iload 6, 2) := by decide +kernel
theorem dL_law_787 : decode cL_law 787 = .ok (.i2l, 1) := by decide +kernel
theorem dL_law_788 : decode cL_law 788 = .ok (.lcmp, 1) := by decide +kernel
theorem dL_law_789 : decode cL_law 789 = .ok (.ifCond .eq 5, 3) := by decide +kernel
theorem dL_law_792 : decode cL_law 792 = .ok (.iconst 0, 1) := by decide +kernel
theorem dL_law_793 : decode cL_law 793 = .ok (.ireturn, 1) := by decide +kernel
theorem dL_law_794 : decode cL_law 794 = .ok (.goto 598, 3) := by decide +kernel
theorem dL_law_797 : decode cL_law 797 = .ok (.aload_n 1, 1) := by decide +kernel
theorem dL_law_798 : decode cL_law 798 = .ok (.aload_n 0, 1) := by decide +kernel
theorem dL_law_799 : decode cL_law 799 = .ok (.iload 4, 2) := by decide +kernel
theorem dL_law_801 : decode cL_law 801 = .ok (.iconst 1, 1) := by decide +kernel
theorem dL_law_802 : decode cL_law 802 = .ok (.iadd, 1) := by decide +kernel
theorem dL_law_803 : decode cL_law 803 = .ok (.iaload, 1) := by decide +kernel
theorem dL_law_804 : decode cL_law 804 = .ok (.aload_n 3, 1) := by decide +kernel
theorem dL_law_805 : decode cL_law 805 = .ok (.invokestatic 121, 3) := by decide +kernel
theorem dL_law_808 : decode cL_law 808 = .ok (.istore 5, 2) := by decide +kernel
theorem dL_law_810 : decode cL_law 810 = .ok (.aload_n 2, 1) := by decide +kernel
theorem dL_law_811 : decode cL_law 811 = .ok (.aload_n 0, 1) := by decide +kernel
theorem dL_law_812 : decode cL_law 812 = .ok (.iload 4, 2) := by decide +kernel
theorem dL_law_814 : decode cL_law 814 = .ok (.iconst 1, 1) := by decide +kernel
theorem dL_law_815 : decode cL_law 815 = .ok (.iadd, 1) := by decide +kernel
theorem dL_law_816 : decode cL_law 816 = .ok (.iaload, 1) := by decide +kernel
theorem dL_law_817 : decode cL_law 817 = .ok (.invokevirtual 123, 3) := by decide +kernel
theorem dL_law_820 : decode cL_law 820 = .ok (.istore 6, 2) := by decide +kernel
theorem dL_law_822 : decode cL_law 822 = .ok (.aload_n 2, 1) := by decide +kernel
theorem dL_law_823 : decode cL_law 823 = .ok (.invokevirtual 85, 3) := by decide +kernel
theorem dL_law_826 : decode cL_law 826 = .ok (.iload 5, 2) := by decide +kernel
theorem dL_law_828 : decode cL_law 828 = .ok (.if_icmp .eq 5, 3) := by decide +kernel
theorem dL_law_831 : decode cL_law 831 = .ok (.iconst 0, 1) := by decide +kernel
theorem dL_law_832 : decode cL_law 832 = .ok (.ireturn, 1) := by decide +kernel
theorem dL_law_833 : decode cL_law 833 = .ok (.iload 5, 2) := by decide +kernel
theorem dL_law_835 : decode cL_law 835 = .ok (.ifCond .ne 15, 3) := by decide +kernel
theorem dL_law_838 : decode cL_law 838 = .ok (.aload_n 3, 1) := by decide +kernel
theorem dL_law_839 : decode cL_law 839 = .ok (.iconst 0, 1) := by decide +kernel
theorem dL_law_840 : decode cL_law 840 = .ok (.laload, 1) := by decide +kernel
theorem dL_law_841 : decode cL_law 841 = .ok (.iload 6, 2) := by decide +kernel
theorem dL_law_843 : decode cL_law 843 = .ok (.i2l, 1) := by decide +kernel
theorem dL_law_844 : decode cL_law 844 = .ok (.lcmp, 1) := by decide +kernel
theorem dL_law_845 : decode cL_law 845 = .ok (.ifCond .eq 5, 3) := by decide +kernel
theorem dL_law_848 : decode cL_law 848 = .ok (.iconst 0, 1) := by decide +kernel
theorem dL_law_849 : decode cL_law 849 = .ok (.ireturn, 1) := by decide +kernel
theorem dL_law_850 : decode cL_law 850 = .ok (.goto 542, 3) := by decide +kernel
theorem dL_law_853 : decode cL_law 853 = .ok (.aload_n 1, 1) := by decide +kernel
theorem dL_law_854 : decode cL_law 854 = .ok (.aload_n 0, 1) := by decide +kernel
theorem dL_law_855 : decode cL_law 855 = .ok (.iload 4, 2) := by decide +kernel
theorem dL_law_857 : decode cL_law 857 = .ok (.iconst 1, 1) := by decide +kernel
theorem dL_law_858 : decode cL_law 858 = .ok (.iadd, 1) := by decide +kernel
theorem dL_law_859 : decode cL_law 859 = .ok (.iaload, 1) := by decide +kernel
theorem dL_law_860 : decode cL_law 860 = .ok (.aload_n 0, 1) := by decide +kernel
theorem dL_law_861 : decode cL_law 861 = .ok (.iload 4, 2) := by decide +kernel
theorem dL_law_863 : decode cL_law 863 = .ok (.iconst 2, 1) := by decide +kernel
theorem dL_law_864 : decode cL_law 864 = .ok (.iadd, 1) := by decide +kernel
theorem dL_law_865 : decode cL_law 865 = .ok (.iaload, 1) := by decide +kernel
theorem dL_law_866 : decode cL_law 866 = .ok (.aload_n 3, 1) := by decide +kernel
theorem dL_law_867 : decode cL_law 867 = .ok (.invokestatic 124, 3) := by decide +kernel
theorem dL_law_870 : decode cL_law 870 = .ok (.istore 5, 2) := by decide +kernel
theorem dL_law_872 : decode cL_law 872 = .ok (.aload_n 2, 1) := by decide +kernel
theorem dL_law_873 : decode cL_law 873 = .ok (.aload_n 0, 1) := by decide +kernel
theorem dL_law_874 : decode cL_law 874 = .ok (.iload 4, 2) := by decide +kernel
theorem dL_law_876 : decode cL_law 876 = .ok (.iconst 1, 1) := by decide +kernel
theorem dL_law_877 : decode cL_law 877 = .ok (.iadd, 1) := by decide +kernel
theorem dL_law_878 : decode cL_law 878 = .ok (.iaload, 1) := by decide +kernel
theorem dL_law_879 : decode cL_law 879 = .ok (.aload_n 0, 1) := by decide +kernel
theorem dL_law_880 : decode cL_law 880 = .ok (.iload 4, 2) := by decide +kernel
theorem dL_law_882 : decode cL_law 882 = .ok (.iconst 2, 1) := by decide +kernel
theorem dL_law_883 : decode cL_law 883 = .ok (.iadd, 1) := by decide +kernel
theorem dL_law_884 : decode cL_law 884 = .ok (.iaload, 1) := by decide +kernel
theorem dL_law_885 : decode cL_law 885 = .ok (.invokevirtual 126, 3) := by decide +kernel
theorem dL_law_888 : decode cL_law 888 = .ok (.istore 6, 2) := by decide +kernel
theorem dL_law_890 : decode cL_law 890 = .ok (.aload_n 2, 1) := by decide +kernel
theorem dL_law_891 : decode cL_law 891 = .ok (.invokevirtual 85, 3) := by decide +kernel
theorem dL_law_894 : decode cL_law 894 = .ok (.iload 5, 2) := by decide +kernel
theorem dL_law_896 : decode cL_law 896 = .ok (.if_icmp .eq 5, 3) := by decide +kernel
theorem dL_law_899 : decode cL_law 899 = .ok (.iconst 0, 1) := by decide +kernel
theorem dL_law_900 : decode cL_law 900 = .ok (.ireturn, 1) := by decide +kernel
theorem dL_law_901 : decode cL_law 901 = .ok (.iload 5, 2) := by decide +kernel
theorem dL_law_903 : decode cL_law 903 = .ok (.ifCond .ne 15, 3) := by decide +kernel
theorem dL_law_906 : decode cL_law 906 = .ok (.aload_n 3, 1) := by decide +kernel
theorem dL_law_907 : decode cL_law 907 = .ok (.iconst 0, 1) := by decide +kernel
theorem dL_law_908 : decode cL_law 908 = .ok (.laload, 1) := by decide +kernel
theorem dL_law_909 : decode cL_law 909 = .ok (.iload 6, 2) := by decide +kernel
theorem dL_law_911 : decode cL_law 911 = .ok (.i2l, 1) := by decide +kernel
theorem dL_law_912 : decode cL_law 912 = .ok (.lcmp, 1) := by decide +kernel
theorem dL_law_913 : decode cL_law 913 = .ok (.ifCond .eq 5, 3) := by decide +kernel
theorem dL_law_916 : decode cL_law 916 = .ok (.iconst 0, 1) := by decide +kernel
theorem dL_law_917 : decode cL_law 917 = .ok (.ireturn, 1) := by decide +kernel
theorem dL_law_918 : decode cL_law 918 = .ok (.goto 474, 3) := by decide +kernel
theorem dL_law_921 : decode cL_law 921 = .ok (.aload_n 1, 1) := by decide +kernel
theorem dL_law_922 : decode cL_law 922 = .ok (.aload_n 0, 1) := by decide +kernel
theorem dL_law_923 : decode cL_law 923 = .ok (.iload 4, 2) := by decide +kernel
theorem dL_law_925 : decode cL_law 925 = .ok (.iconst 1, 1) := by decide +kernel
theorem dL_law_926 : decode cL_law 926 = .ok (.iadd, 1) := by decide +kernel
theorem dL_law_927 : decode cL_law 927 = .ok (.iaload, 1) := by decide +kernel
theorem dL_law_928 : decode cL_law 928 = .ok (.aload_n 3, 1) := by decide +kernel
theorem dL_law_929 : decode cL_law 929 = .ok (.invokestatic 127, 3) := by decide +kernel
theorem dL_law_932 : decode cL_law 932 = .ok (.istore 5, 2) := by decide +kernel
theorem dL_law_934 : decode cL_law 934 = .ok (.aload_n 2, 1) := by decide +kernel
theorem dL_law_935 : decode cL_law 935 = .ok (.aload_n 0, 1) := by decide +kernel
theorem dL_law_936 : decode cL_law 936 = .ok (.iload 4, 2) := by decide +kernel
theorem dL_law_938 : decode cL_law 938 = .ok (.iconst 1, 1) := by decide +kernel
theorem dL_law_939 : decode cL_law 939 = .ok (.iadd, 1) := by decide +kernel
theorem dL_law_940 : decode cL_law 940 = .ok (.iaload, 1) := by decide +kernel
theorem dL_law_941 : decode cL_law 941 = .ok (.invokevirtual 129, 3) := by decide +kernel
theorem dL_law_944 : decode cL_law 944 = .ok (.istore 6, 2) := by decide +kernel
theorem dL_law_946 : decode cL_law 946 = .ok (.aload_n 2, 1) := by decide +kernel
theorem dL_law_947 : decode cL_law 947 = .ok (.invokevirtual 85, 3) := by decide +kernel
theorem dL_law_950 : decode cL_law 950 = .ok (.iload 5, 2) := by decide +kernel
theorem dL_law_952 : decode cL_law 952 = .ok (.if_icmp .eq 5, 3) := by decide +kernel
theorem dL_law_955 : decode cL_law 955 = .ok (.iconst 0, 1) := by decide +kernel
theorem dL_law_956 : decode cL_law 956 = .ok (.ireturn, 1) := by decide +kernel
theorem dL_law_957 : decode cL_law 957 = .ok (.iload 5, 2) := by decide +kernel
theorem dL_law_959 : decode cL_law 959 = .ok (.ifCond .ne 15, 3) := by decide +kernel
theorem dL_law_962 : decode cL_law 962 = .ok (.aload_n 3, 1) := by decide +kernel
theorem dL_law_963 : decode cL_law 963 = .ok (.iconst 0, 1) := by decide +kernel
theorem dL_law_964 : decode cL_law 964 = .ok (.laload, 1) := by decide +kernel
theorem dL_law_965 : decode cL_law 965 = .ok (.iload 6, 2) := by decide +kernel
theorem dL_law_967 : decode cL_law 967 = .ok (.i2l, 1) := by decide +kernel
theorem dL_law_968 : decode cL_law 968 = .ok (.lcmp, 1) := by decide +kernel
theorem dL_law_969 : decode cL_law 969 = .ok (.ifCond .eq 5, 3) := by decide +kernel
theorem dL_law_972 : decode cL_law 972 = .ok (.iconst 0, 1) := by decide +kernel
theorem dL_law_973 : decode cL_law 973 = .ok (.ireturn, 1) := by decide +kernel
theorem dL_law_974 : decode cL_law 974 = .ok (.goto 418, 3) := by decide +kernel
theorem dL_law_977 : decode cL_law 977 = .ok (.aload_n 1, 1) := by decide +kernel
theorem dL_law_978 : decode cL_law 978 = .ok (.aload_n 0, 1) := by decide +kernel
theorem dL_law_979 : decode cL_law 979 = .ok (.iload 4, 2) := by decide +kernel
theorem dL_law_981 : decode cL_law 981 = .ok (.iconst 1, 1) := by decide +kernel
theorem dL_law_982 : decode cL_law 982 = .ok (.iadd, 1) := by decide +kernel
theorem dL_law_983 : decode cL_law 983 = .ok (.iaload, 1) := by decide +kernel
theorem dL_law_984 : decode cL_law 984 = .ok (.aload_n 3, 1) := by decide +kernel
theorem dL_law_985 : decode cL_law 985 = .ok (.invokestatic 130, 3) := by decide +kernel
theorem dL_law_988 : decode cL_law 988 = .ok (.istore 5, 2) := by decide +kernel
theorem dL_law_990 : decode cL_law 990 = .ok (.aload_n 2, 1) := by decide +kernel
theorem dL_law_991 : decode cL_law 991 = .ok (.aload_n 0, 1) := by decide +kernel
theorem dL_law_992 : decode cL_law 992 = .ok (.iload 4, 2) := by decide +kernel
theorem dL_law_994 : decode cL_law 994 = .ok (.iconst 1, 1) := by decide +kernel
theorem dL_law_995 : decode cL_law 995 = .ok (.iadd, 1) := by decide +kernel
theorem dL_law_996 : decode cL_law 996 = .ok (.iaload, 1) := by decide +kernel
theorem dL_law_997 : decode cL_law 997 = .ok (.invokevirtual 132, 3) := by decide +kernel
theorem dL_law_1000 : decode cL_law 1000 = .ok (.istore 6, 2) := by decide +kernel
theorem dL_law_1002 : decode cL_law 1002 = .ok (.aload_n 2, 1) := by decide +kernel
theorem dL_law_1003 : decode cL_law 1003 = .ok (.invokevirtual 85, 3) := by decide +kernel
theorem dL_law_1006 : decode cL_law 1006 = .ok (.iload 5, 2) := by decide +kernel
theorem dL_law_1008 : decode cL_law 1008 = .ok (.if_icmp .eq 5, 3) := by decide +kernel
theorem dL_law_1011 : decode cL_law 1011 = .ok (.iconst 0, 1) := by decide +kernel
theorem dL_law_1012 : decode cL_law 1012 = .ok (.ireturn, 1) := by decide +kernel
theorem dL_law_1013 : decode cL_law 1013 = .ok (.iload 5, 2) := by decide +kernel
theorem dL_law_1015 : decode cL_law 1015 = .ok (.ifCond .ne 15, 3) := by decide +kernel
theorem dL_law_1018 : decode cL_law 1018 = .ok (.aload_n 3, 1) := by decide +kernel
theorem dL_law_1019 : decode cL_law 1019 = .ok (.iconst 0, 1) := by decide +kernel
theorem dL_law_1020 : decode cL_law 1020 = .ok (.laload, 1) := by decide +kernel
theorem dL_law_1021 : decode cL_law 1021 = .ok (.iload 6, 2) := by decide +kernel
theorem dL_law_1023 : decode cL_law 1023 = .ok (.i2l, 1) := by decide +kernel
theorem dL_law_1024 : decode cL_law 1024 = .ok (.lcmp, 1) := by decide +kernel
theorem dL_law_1025 : decode cL_law 1025 = .ok (.ifCond .eq 5, 3) := by decide +kernel
theorem dL_law_1028 : decode cL_law 1028 = .ok (.iconst 0, 1) := by decide +kernel
theorem dL_law_1029 : decode cL_law 1029 = .ok (.ireturn, 1) := by decide +kernel
theorem dL_law_1030 : decode cL_law 1030 = .ok (.goto 362, 3) := by decide +kernel
theorem dL_law_1033 : decode cL_law 1033 = .ok (.aload_n 1, 1) := by decide +kernel
theorem dL_law_1034 : decode cL_law 1034 = .ok (.aload_n 0, 1) := by decide +kernel
theorem dL_law_1035 : decode cL_law 1035 = .ok (.iload 4, 2) := by decide +kernel
theorem dL_law_1037 : decode cL_law 1037 = .ok (.iconst 1, 1) := by decide +kernel
theorem dL_law_1038 : decode cL_law 1038 = .ok (.iadd, 1) := by decide +kernel
theorem dL_law_1039 : decode cL_law 1039 = .ok (.iaload, 1) := by decide +kernel
theorem dL_law_1040 : decode cL_law 1040 = .ok (.aload_n 0, 1) := by decide +kernel
theorem dL_law_1041 : decode cL_law 1041 = .ok (.iload 4, 2) := by decide +kernel
theorem dL_law_1043 : decode cL_law 1043 = .ok (.iconst 2, 1) := by decide +kernel
theorem dL_law_1044 : decode cL_law 1044 = .ok (.iadd, 1) := by decide +kernel
theorem dL_law_1045 : decode cL_law 1045 = .ok (.iaload, 1) := by decide +kernel
theorem dL_law_1046 : decode cL_law 1046 = .ok (.aload_n 3, 1) := by decide +kernel
theorem dL_law_1047 : decode cL_law 1047 = .ok (.invokestatic 133, 3) := by decide +kernel
theorem dL_law_1050 : decode cL_law 1050 = .ok (.istore 5, 2) := by decide +kernel
theorem dL_law_1052 : decode cL_law 1052 = .ok (.aload_n 2, 1) := by decide +kernel
theorem dL_law_1053 : decode cL_law 1053 = .ok (.aload_n 0, 1) := by decide +kernel
theorem dL_law_1054 : decode cL_law 1054 = .ok (.iload 4, 2) := by decide +kernel
theorem dL_law_1056 : decode cL_law 1056 = .ok (.iconst 1, 1) := by decide +kernel
theorem dL_law_1057 : decode cL_law 1057 = .ok (.iadd, 1) := by decide +kernel
theorem dL_law_1058 : decode cL_law 1058 = .ok (.iaload, 1) := by decide +kernel
theorem dL_law_1059 : decode cL_law 1059 = .ok (.aload_n 0, 1) := by decide +kernel
theorem dL_law_1060 : decode cL_law 1060 = .ok (.iload 4, 2) := by decide +kernel
theorem dL_law_1062 : decode cL_law 1062 = .ok (.iconst 2, 1) := by decide +kernel
theorem dL_law_1063 : decode cL_law 1063 = .ok (.iadd, 1) := by decide +kernel
theorem dL_law_1064 : decode cL_law 1064 = .ok (.iaload, 1) := by decide +kernel
theorem dL_law_1065 : decode cL_law 1065 = .ok (.invokevirtual 135, 3) := by decide +kernel
theorem dL_law_1068 : decode cL_law 1068 = .ok (.istore 6, 2) := by decide +kernel
theorem dL_law_1070 : decode cL_law 1070 = .ok (.aload_n 2, 1) := by decide +kernel
theorem dL_law_1071 : decode cL_law 1071 = .ok (.invokevirtual 85, 3) := by decide +kernel
theorem dL_law_1074 : decode cL_law 1074 = .ok (.iload 5, 2) := by decide +kernel
theorem dL_law_1076 : decode cL_law 1076 = .ok (.if_icmp .eq 5, 3) := by decide +kernel
theorem dL_law_1079 : decode cL_law 1079 = .ok (.iconst 0, 1) := by decide +kernel
theorem dL_law_1080 : decode cL_law 1080 = .ok (.ireturn, 1) := by decide +kernel
theorem dL_law_1081 : decode cL_law 1081 = .ok (.iload 5, 2) := by decide +kernel
theorem dL_law_1083 : decode cL_law 1083 = .ok (.ifCond .ne 15, 3) := by decide +kernel
theorem dL_law_1086 : decode cL_law 1086 = .ok (.aload_n 3, 1) := by decide +kernel
theorem dL_law_1087 : decode cL_law 1087 = .ok (.iconst 0, 1) := by decide +kernel
theorem dL_law_1088 : decode cL_law 1088 = .ok (.laload, 1) := by decide +kernel
theorem dL_law_1089 : decode cL_law 1089 = .ok (.iload 6, 2) := by decide +kernel
theorem dL_law_1091 : decode cL_law 1091 = .ok (.i2l, 1) := by decide +kernel
theorem dL_law_1092 : decode cL_law 1092 = .ok (.lcmp, 1) := by decide +kernel
theorem dL_law_1093 : decode cL_law 1093 = .ok (.ifCond .eq 5, 3) := by decide +kernel
theorem dL_law_1096 : decode cL_law 1096 = .ok (.iconst 0, 1) := by decide +kernel
theorem dL_law_1097 : decode cL_law 1097 = .ok (.ireturn, 1) := by decide +kernel
theorem dL_law_1098 : decode cL_law 1098 = .ok (.goto 294, 3) := by decide +kernel
theorem dL_law_1101 : decode cL_law 1101 = .ok (.aload_n 1, 1) := by decide +kernel
theorem dL_law_1102 : decode cL_law 1102 = .ok (.aload_n 0, 1) := by decide +kernel
theorem dL_law_1103 : decode cL_law 1103 = .ok (.iload 4, 2) := by decide +kernel
theorem dL_law_1105 : decode cL_law 1105 = .ok (.iconst 1, 1) := by decide +kernel
theorem dL_law_1106 : decode cL_law 1106 = .ok (.iadd, 1) := by decide +kernel
theorem dL_law_1107 : decode cL_law 1107 = .ok (.iaload, 1) := by decide +kernel
theorem dL_law_1108 : decode cL_law 1108 = .ok (.aload_n 3, 1) := by decide +kernel
theorem dL_law_1109 : decode cL_law 1109 = .ok (.invokestatic 136, 3) := by decide +kernel
theorem dL_law_1112 : decode cL_law 1112 = .ok (.istore 5, 2) := by decide +kernel
theorem dL_law_1114 : decode cL_law 1114 = .ok (.aload_n 2, 1) := by decide +kernel
theorem dL_law_1115 : decode cL_law 1115 = .ok (.aload_n 0, 1) := by decide +kernel
theorem dL_law_1116 : decode cL_law 1116 = .ok (.iload 4, 2) := by decide +kernel
theorem dL_law_1118 : decode cL_law 1118 = .ok (.iconst 1, 1) := by decide +kernel
theorem dL_law_1119 : decode cL_law 1119 = .ok (.iadd, 1) := by decide +kernel
theorem dL_law_1120 : decode cL_law 1120 = .ok (.iaload, 1) := by decide +kernel
theorem dL_law_1121 : decode cL_law 1121 = .ok (.invokevirtual 138, 3) := by decide +kernel
theorem dL_law_1124 : decode cL_law 1124 = .ok (.istore 6, 2) := by decide +kernel
theorem dL_law_1126 : decode cL_law 1126 = .ok (.aload_n 2, 1) := by decide +kernel
theorem dL_law_1127 : decode cL_law 1127 = .ok (.invokevirtual 85, 3) := by decide +kernel
theorem dL_law_1130 : decode cL_law 1130 = .ok (.iload 5, 2) := by decide +kernel
theorem dL_law_1132 : decode cL_law 1132 = .ok (.if_icmp .eq 5, 3) := by decide +kernel
theorem dL_law_1135 : decode cL_law 1135 = .ok (.iconst 0, 1) := by decide +kernel
theorem dL_law_1136 : decode cL_law 1136 = .ok (.ireturn, 1) := by decide +kernel
theorem dL_law_1137 : decode cL_law 1137 = .ok (.iload 5, 2) := by decide +kernel
theorem dL_law_1139 : decode cL_law 1139 = .ok (.ifCond .ne 15, 3) := by decide +kernel
theorem dL_law_1142 : decode cL_law 1142 = .ok (.aload_n 3, 1) := by decide +kernel
theorem dL_law_1143 : decode cL_law 1143 = .ok (.iconst 0, 1) := by decide +kernel
theorem dL_law_1144 : decode cL_law 1144 = .ok (.laload, 1) := by decide +kernel
theorem dL_law_1145 : decode cL_law 1145 = .ok (.iload 6, 2) := by decide +kernel
theorem dL_law_1147 : decode cL_law 1147 = .ok (.i2l, 1) := by decide +kernel
theorem dL_law_1148 : decode cL_law 1148 = .ok (.lcmp, 1) := by decide +kernel
theorem dL_law_1149 : decode cL_law 1149 = .ok (.ifCond .eq 5, 3) := by decide +kernel
theorem dL_law_1152 : decode cL_law 1152 = .ok (.iconst 0, 1) := by decide +kernel
theorem dL_law_1153 : decode cL_law 1153 = .ok (.ireturn, 1) := by decide +kernel
theorem dL_law_1154 : decode cL_law 1154 = .ok (.goto 238, 3) := by decide +kernel
theorem dL_law_1157 : decode cL_law 1157 = .ok (.aload_n 1, 1) := by decide +kernel
theorem dL_law_1158 : decode cL_law 1158 = .ok (.aload_n 0, 1) := by decide +kernel
theorem dL_law_1159 : decode cL_law 1159 = .ok (.iload 4, 2) := by decide +kernel
theorem dL_law_1161 : decode cL_law 1161 = .ok (.iconst 1, 1) := by decide +kernel
theorem dL_law_1162 : decode cL_law 1162 = .ok (.iadd, 1) := by decide +kernel
theorem dL_law_1163 : decode cL_law 1163 = .ok (.iaload, 1) := by decide +kernel
theorem dL_law_1164 : decode cL_law 1164 = .ok (.aload_n 3, 1) := by decide +kernel
theorem dL_law_1165 : decode cL_law 1165 = .ok (.invokestatic 139, 3) := by decide +kernel
theorem dL_law_1168 : decode cL_law 1168 = .ok (.istore 5, 2) := by decide +kernel
theorem dL_law_1170 : decode cL_law 1170 = .ok (.aload_n 2, 1) := by decide +kernel
theorem dL_law_1171 : decode cL_law 1171 = .ok (.aload_n 0, 1) := by decide +kernel
theorem dL_law_1172 : decode cL_law 1172 = .ok (.iload 4, 2) := by decide +kernel
theorem dL_law_1174 : decode cL_law 1174 = .ok (.iconst 1, 1) := by decide +kernel
theorem dL_law_1175 : decode cL_law 1175 = .ok (.iadd, 1) := by decide +kernel
theorem dL_law_1176 : decode cL_law 1176 = .ok (.iaload, 1) := by decide +kernel
theorem dL_law_1177 : decode cL_law 1177 = .ok (.invokevirtual 141, 3) := by decide +kernel
theorem dL_law_1180 : decode cL_law 1180 = .ok (.istore 6, 2) := by decide +kernel
theorem dL_law_1182 : decode cL_law 1182 = .ok (.aload_n 2, 1) := by decide +kernel
theorem dL_law_1183 : decode cL_law 1183 = .ok (.invokevirtual 85, 3) := by decide +kernel
theorem dL_law_1186 : decode cL_law 1186 = .ok (.iload 5, 2) := by decide +kernel
theorem dL_law_1188 : decode cL_law 1188 = .ok (.if_icmp .eq 5, 3) := by decide +kernel
theorem dL_law_1191 : decode cL_law 1191 = .ok (.iconst 0, 1) := by decide +kernel
theorem dL_law_1192 : decode cL_law 1192 = .ok (.ireturn, 1) := by decide +kernel
theorem dL_law_1193 : decode cL_law 1193 = .ok (.iload 5, 2) := by decide +kernel
theorem dL_law_1195 : decode cL_law 1195 = .ok (.ifCond .ne 15, 3) := by decide +kernel
theorem dL_law_1198 : decode cL_law 1198 = .ok (.aload_n 3, 1) := by decide +kernel
theorem dL_law_1199 : decode cL_law 1199 = .ok (.iconst 0, 1) := by decide +kernel
theorem dL_law_1200 : decode cL_law 1200 = .ok (.laload, 1) := by decide +kernel
theorem dL_law_1201 : decode cL_law 1201 = .ok (.iload 6, 2) := by decide +kernel
theorem dL_law_1203 : decode cL_law 1203 = .ok (.i2l, 1) := by decide +kernel
theorem dL_law_1204 : decode cL_law 1204 = .ok (.lcmp, 1) := by decide +kernel
theorem dL_law_1205 : decode cL_law 1205 = .ok (.ifCond .eq 5, 3) := by decide +kernel
theorem dL_law_1208 : decode cL_law 1208 = .ok (.iconst 0, 1) := by decide +kernel
theorem dL_law_1209 : decode cL_law 1209 = .ok (.ireturn, 1) := by decide +kernel
theorem dL_law_1210 : decode cL_law 1210 = .ok (.goto 182, 3) := by decide +kernel
theorem dL_law_1213 : decode cL_law 1213 = .ok (.aload_n 1, 1) := by decide +kernel
theorem dL_law_1214 : decode cL_law 1214 = .ok (.aload_n 0, 1) := by decide +kernel
theorem dL_law_1215 : decode cL_law 1215 = .ok (.iload 4, 2) := by decide +kernel
theorem dL_law_1217 : decode cL_law 1217 = .ok (.iconst 1, 1) := by decide +kernel
theorem dL_law_1218 : decode cL_law 1218 = .ok (.iadd, 1) := by decide +kernel
theorem dL_law_1219 : decode cL_law 1219 = .ok (.iaload, 1) := by decide +kernel
theorem dL_law_1220 : decode cL_law 1220 = .ok (.aload_n 0, 1) := by decide +kernel
theorem dL_law_1221 : decode cL_law 1221 = .ok (.iload 4, 2) := by decide +kernel
theorem dL_law_1223 : decode cL_law 1223 = .ok (.iconst 2, 1) := by decide +kernel
theorem dL_law_1224 : decode cL_law 1224 = .ok (.iadd, 1) := by decide +kernel
theorem dL_law_1225 : decode cL_law 1225 = .ok (.iaload, 1) := by decide +kernel
theorem dL_law_1226 : decode cL_law 1226 = .ok (.aload_n 3, 1) := by decide +kernel
theorem dL_law_1227 : decode cL_law 1227 = .ok (.invokestatic 142, 3) := by decide +kernel
theorem dL_law_1230 : decode cL_law 1230 = .ok (.istore 5, 2) := by decide +kernel
theorem dL_law_1232 : decode cL_law 1232 = .ok (.aload_n 2, 1) := by decide +kernel
theorem dL_law_1233 : decode cL_law 1233 = .ok (.aload_n 0, 1) := by decide +kernel
theorem dL_law_1234 : decode cL_law 1234 = .ok (.iload 4, 2) := by decide +kernel
theorem dL_law_1236 : decode cL_law 1236 = .ok (.iconst 1, 1) := by decide +kernel
theorem dL_law_1237 : decode cL_law 1237 = .ok (.iadd, 1) := by decide +kernel
theorem dL_law_1238 : decode cL_law 1238 = .ok (.iaload, 1) := by decide +kernel
theorem dL_law_1239 : decode cL_law 1239 = .ok (.aload_n 0, 1) := by decide +kernel
theorem dL_law_1240 : decode cL_law 1240 = .ok (.iload 4, 2) := by decide +kernel
theorem dL_law_1242 : decode cL_law 1242 = .ok (.iconst 2, 1) := by decide +kernel
theorem dL_law_1243 : decode cL_law 1243 = .ok (.iadd, 1) := by decide +kernel
theorem dL_law_1244 : decode cL_law 1244 = .ok (.iaload, 1) := by decide +kernel
theorem dL_law_1245 : decode cL_law 1245 = .ok (.invokevirtual 144, 3) := by decide +kernel
theorem dL_law_1248 : decode cL_law 1248 = .ok (.istore 6, 2) := by decide +kernel
theorem dL_law_1250 : decode cL_law 1250 = .ok (.aload_n 2, 1) := by decide +kernel
theorem dL_law_1251 : decode cL_law 1251 = .ok (.invokevirtual 85, 3) := by decide +kernel
theorem dL_law_1254 : decode cL_law 1254 = .ok (.iload 5, 2) := by decide +kernel
theorem dL_law_1256 : decode cL_law 1256 = .ok (.if_icmp .eq 5, 3) := by decide +kernel
theorem dL_law_1259 : decode cL_law 1259 = .ok (.iconst 0, 1) := by decide +kernel
theorem dL_law_1260 : decode cL_law 1260 = .ok (.ireturn, 1) := by decide +kernel
theorem dL_law_1261 : decode cL_law 1261 = .ok (.iload 5, 2) := by decide +kernel
theorem dL_law_1263 : decode cL_law 1263 = .ok (.ifCond .ne 15, 3) := by decide +kernel
theorem dL_law_1266 : decode cL_law 1266 = .ok (.aload_n 3, 1) := by decide +kernel
theorem dL_law_1267 : decode cL_law 1267 = .ok (.iconst 0, 1) := by decide +kernel
theorem dL_law_1268 : decode cL_law 1268 = .ok (.laload, 1) := by decide +kernel
theorem dL_law_1269 : decode cL_law 1269 = .ok (.iload 6, 2) := by decide +kernel
theorem dL_law_1271 : decode cL_law 1271 = .ok (.i2l, 1) := by decide +kernel
theorem dL_law_1272 : decode cL_law 1272 = .ok (.lcmp, 1) := by decide +kernel
theorem dL_law_1273 : decode cL_law 1273 = .ok (.ifCond .eq 5, 3) := by decide +kernel
theorem dL_law_1276 : decode cL_law 1276 = .ok (.iconst 0, 1) := by decide +kernel
theorem dL_law_1277 : decode cL_law 1277 = .ok (.ireturn, 1) := by decide +kernel
theorem dL_law_1278 : decode cL_law 1278 = .ok (.goto 114, 3) := by decide +kernel
theorem dL_law_1281 : decode cL_law 1281 = .ok (.aload_n 1, 1) := by decide +kernel
theorem dL_law_1282 : decode cL_law 1282 = .ok (.aload_n 0, 1) := by decide +kernel
theorem dL_law_1283 : decode cL_law 1283 = .ok (.iload 4, 2) := by decide +kernel
theorem dL_law_1285 : decode cL_law 1285 = .ok (.iconst 1, 1) := by decide +kernel
theorem dL_law_1286 : decode cL_law 1286 = .ok (.iadd, 1) := by decide +kernel
theorem dL_law_1287 : decode cL_law 1287 = .ok (.iaload, 1) := by decide +kernel
theorem dL_law_1288 : decode cL_law 1288 = .ok (.aload_n 3, 1) := by decide +kernel
theorem dL_law_1289 : decode cL_law 1289 = .ok (.invokestatic 145, 3) := by decide +kernel
theorem dL_law_1292 : decode cL_law 1292 = .ok (.istore 5, 2) := by decide +kernel
theorem dL_law_1294 : decode cL_law 1294 = .ok (.aload_n 2, 1) := by decide +kernel
theorem dL_law_1295 : decode cL_law 1295 = .ok (.aload_n 0, 1) := by decide +kernel
theorem dL_law_1296 : decode cL_law 1296 = .ok (.iload 4, 2) := by decide +kernel
theorem dL_law_1298 : decode cL_law 1298 = .ok (.iconst 1, 1) := by decide +kernel
theorem dL_law_1299 : decode cL_law 1299 = .ok (.iadd, 1) := by decide +kernel
theorem dL_law_1300 : decode cL_law 1300 = .ok (.iaload, 1) := by decide +kernel
theorem dL_law_1301 : decode cL_law 1301 = .ok (.invokevirtual 147, 3) := by decide +kernel
theorem dL_law_1304 : decode cL_law 1304 = .ok (.istore 6, 2) := by decide +kernel
theorem dL_law_1306 : decode cL_law 1306 = .ok (.aload_n 2, 1) := by decide +kernel
theorem dL_law_1307 : decode cL_law 1307 = .ok (.invokevirtual 85, 3) := by decide +kernel
theorem dL_law_1310 : decode cL_law 1310 = .ok (.iload 5, 2) := by decide +kernel
theorem dL_law_1312 : decode cL_law 1312 = .ok (.if_icmp .eq 5, 3) := by decide +kernel
theorem dL_law_1315 : decode cL_law 1315 = .ok (.iconst 0, 1) := by decide +kernel
theorem dL_law_1316 : decode cL_law 1316 = .ok (.ireturn, 1) := by decide +kernel
theorem dL_law_1317 : decode cL_law 1317 = .ok (.iload 5, 2) := by decide +kernel
theorem dL_law_1319 : decode cL_law 1319 = .ok (.ifCond .ne 15, 3) := by decide +kernel
theorem dL_law_1322 : decode cL_law 1322 = .ok (.aload_n 3, 1) := by decide +kernel
theorem dL_law_1323 : decode cL_law 1323 = .ok (.iconst 0, 1) := by decide +kernel
theorem dL_law_1324 : decode cL_law 1324 = .ok (.laload, 1) := by decide +kernel
theorem dL_law_1325 : decode cL_law 1325 = .ok (.iload 6, 2) := by decide +kernel
theorem dL_law_1327 : decode cL_law 1327 = .ok (.i2l, 1) := by decide +kernel
theorem dL_law_1328 : decode cL_law 1328 = .ok (.lcmp, 1) := by decide +kernel
theorem dL_law_1329 : decode cL_law 1329 = .ok (.ifCond .eq 5, 3) := by decide +kernel
theorem dL_law_1332 : decode cL_law 1332 = .ok (.iconst 0, 1) := by decide +kernel
theorem dL_law_1333 : decode cL_law 1333 = .ok (.ireturn, 1) := by decide +kernel
theorem dL_law_1334 : decode cL_law 1334 = .ok (.goto 58, 3) := by decide +kernel
theorem dL_law_1337 : decode cL_law 1337 = .ok (.aload_n 1, 1) := by decide +kernel
theorem dL_law_1338 : decode cL_law 1338 = .ok (.invokevirtual 148, 3) := by decide +kernel
theorem dL_law_1341 : decode cL_law 1341 = .ok (.dstore 5, 2) := by decide +kernel
theorem dL_law_1343 : decode cL_law 1343 = .ok (.aload_n 2, 1) := by decide +kernel
theorem dL_law_1344 : decode cL_law 1344 = .ok (.invokevirtual 152, 3) := by decide +kernel
theorem dL_law_1347 : decode cL_law 1347 = .ok (.dstore 7, 2) := by decide +kernel
theorem dL_law_1349 : decode cL_law 1349 = .ok (.dload 5, 2) := by decide +kernel
theorem dL_law_1351 : decode cL_law 1351 = .ok (.dload 7, 2) := by decide +kernel
theorem dL_law_1353 : decode cL_law 1353 = .ok (.dcmp .l, 1) := by decide +kernel
theorem dL_law_1354 : decode cL_law 1354 = .ok (.ifCond .eq 21, 3) := by decide +kernel
theorem dL_law_1357 : decode cL_law 1357 = .ok (.dload 5, 2) := by decide +kernel
theorem dL_law_1359 : decode cL_law 1359 = .ok (.dload 5, 2) := by decide +kernel
theorem dL_law_1361 : decode cL_law 1361 = .ok (.dcmp .l, 1) := by decide +kernel
theorem dL_law_1362 : decode cL_law 1362 = .ok (.ifCond .eq 11, 3) := by decide +kernel
theorem dL_law_1365 : decode cL_law 1365 = .ok (.dload 7, 2) := by decide +kernel
theorem dL_law_1367 : decode cL_law 1367 = .ok (.dload 7, 2) := by decide +kernel
theorem dL_law_1369 : decode cL_law 1369 = .ok (.dcmp .l, 1) := by decide +kernel
theorem dL_law_1370 : decode cL_law 1370 = .ok (.ifCond .ne 5, 3) := by decide +kernel
theorem dL_law_1373 : decode cL_law 1373 = .ok (.iconst 0, 1) := by decide +kernel
theorem dL_law_1374 : decode cL_law 1374 = .ok (.ireturn, 1) := by decide +kernel
theorem dL_law_1375 : decode cL_law 1375 = .ok (.goto 17, 3) := by decide +kernel
theorem dL_law_1378 : decode cL_law 1378 = .ok (.aload_n 1, 1) := by decide +kernel
theorem dL_law_1379 : decode cL_law 1379 = .ok (.invokevirtual 153, 3) := by decide +kernel
theorem dL_law_1382 : decode cL_law 1382 = .ok (.aload_n 2, 1) := by decide +kernel
theorem dL_law_1383 : decode cL_law 1383 = .ok (.invokevirtual 157, 3) := by decide +kernel
theorem dL_law_1386 : decode cL_law 1386 = .ok (.lcmp, 1) := by decide +kernel
theorem dL_law_1387 : decode cL_law 1387 = .ok (.ifCond .eq 5, 3) := by decide +kernel
theorem dL_law_1390 : decode cL_law 1390 = .ok (.iconst 0, 1) := by decide +kernel
theorem dL_law_1391 : decode cL_law 1391 = .ok (.ireturn, 1) := by decide +kernel
theorem dL_law_1392 : decode cL_law 1392 = .ok (.iinc 4 3, 3) := by decide +kernel
theorem dL_law_1395 : decode cL_law 1395 = .ok (.goto (-1372), 3) := by decide +kernel
theorem dL_law_1398 : decode cL_law 1398 = .ok (.iconst 1, 1) := by decide +kernel
theorem dL_law_1399 : decode cL_law 1399 = .ok (.ireturn, 1) := by decide +kernel
end
section
/-! A world by numbers: n cells at ad 0 .. ad (n-1); the cell k holds what cz says of its row ρ k -/
def gT (cy : Nat → ClassId) : List (ClassId × FieldType) := [(cy 0, .int), (cy 1, .boolean), (cy 2, .object "StreetOrgans$Tune"), (cy 3, .object "StreetOrgans$Street"), (cy 4, .long)]
def up1 (ρ : Nat → Nat → Int32) (k : Nat) (r : Nat → Int32) : Nat → Nat → Int32 := fun i => if i = k then r else ρ i
def up2 (ρ : Nat → Nat → Int32) (k j : Nat) (v : Int32) : Nat → Nat → Int32 := up1 ρ k (upd (ρ k) j v)
theorem up1_s {ρ : Nat → Nat → Int32} {k : Nat} {r : Nat → Int32} : up1 ρ k r k = r := by simp [up1]
theorem up1_n {ρ : Nat → Nat → Int32} {k i : Nat} {r : Nat → Int32} (h : i ≠ k) : up1 ρ k r i = ρ i := by simp [up1, h]
def gWl (n : Nat) (ad : Nat → Nat) (cz : Nat → (Nat → Int32) → va_E) (ρ : Nat → Nat → Int32) : va_W := (List.range n).map (fun k => (ad k, cz k (ρ k)))
theorem gWl_get {n : Nat} {ad : Nat → Nat} {cz : Nat → (Nat → Int32) → va_E} {ρ : Nat → Nat → Int32} {k : Nat} (h : k < n) : (gWl n ad cz ρ)[k]? = some (ad k, cz k (ρ k)) := by
  simp [gWl, List.getElem?_range h]
theorem gWl_out {n : Nat} {ad : Nat → Nat} {cz : Nat → (Nat → Int32) → va_E} {ρ : Nat → Nat → Int32} {k : Nat} {q : Nat × va_E} (h : (gWl n ad cz ρ)[k]? = some q) : k < n ∧ q = (ad k, cz k (ρ k)) := by
  by_cases hk : k < n
  · rw [gWl_get hk] at h
    exact ⟨hk, (Option.some.inj h).symm⟩
  · have : (gWl n ad cz ρ)[k]? = none := by simp [gWl]; omega
    rw [this] at h
    cases h
theorem gWl_set {n : Nat} {ad : Nat → Nat} {cz : Nat → (Nat → Int32) → va_E} {ρ : Nat → Nat → Int32} {k : Nat} {r : Nat → Int32} {e : va_E} (h : k < n) (he : e = cz k r) : (gWl n ad cz ρ).set k (ad k, e) = gWl n ad cz (up1 ρ k r) := by
  subst he
  apply List.ext_getElem?
  intro i
  by_cases hk : i = k
  · subst hk
    rw [gWl_get h, List.getElem?_set_self (by simp [gWl]; exact h), up1_s]
  · rw [List.getElem?_set_ne (fun q => hk q.symm)]
    by_cases hi : i < n
    · rw [gWl_get hi, gWl_get hi, up1_n hk]
    · rw [List.getElem?_eq_none (by simp [gWl]; omega), List.getElem?_eq_none (by simp [gWl]; omega)]
/-- the addresses are apart -/
def gInj (n : Nat) (ad : Nat → Nat) : Prop := ∀ i j : Nat, i < n → j < n → ad i = ad j → i = j
/-- the cells of a world, and those that come from sz on -/
def gA (n : Nat) (ad : Nat → Nat) (sz : Nat) : Nat → Prop := fun q => (∃ k : Nat, k < n ∧ q = ad k) ∨ sz ≤ q
theorem gD_of {n : Nat} {ad : Nat → Nat} {cz : Nat → (Nat → Int32) → va_E} {ρ : Nat → Nat → Int32} {A : Nat → Prop} (hi : gInj n ad) (hA : ∀ k, k < n → A (ad k)) : va_D A (gWl n ad cz ρ) := by
  refine ⟨fun i j p q h1 h2 h3 => ?_, fun k q h => ?_⟩
  · obtain ⟨a1, rfl⟩ := gWl_out h1
    obtain ⟨a2, rfl⟩ := gWl_out h2
    exact hi i j a1 a2 h3
  · obtain ⟨a1, rfl⟩ := gWl_out h
    exact hA k a1
theorem gD_inj {n : Nat} {ad : Nat → Nat} {cz : Nat → (Nat → Int32) → va_E} {ρ : Nat → Nat → Int32} {A : Nat → Prop} (h : va_D A (gWl n ad cz ρ)) : gInj n ad := fun i j h1 h2 h3 => h.1 i j _ _ (gWl_get h1) (gWl_get h2) h3
theorem gD_in {n : Nat} {ad : Nat → Nat} {cz : Nat → (Nat → Int32) → va_E} {ρ : Nat → Nat → Int32} {A : Nat → Prop} (h : va_D A (gWl n ad cz ρ)) {k : Nat} (hk : k < n) : A (ad k) := h.2 k _ (gWl_get hk)
/-- another world's cells among these, from off on -/
def gSub (n : Nat) (ad : Nat → Nat) (cz : Nat → (Nat → Int32) → va_E) (off n' : Nat) (ad' : Nat → Nat) (cz' : Nat → (Nat → Int32) → va_E) : Prop := off + n' ≤ n ∧ ∀ j, j < n' → ad' j = ad (off + j) ∧ ∀ r, cz' j r = cz (off + j) r
theorem gSub_self {n : Nat} {ad : Nat → Nat} {cz : Nat → (Nat → Int32) → va_E} : gSub n ad cz 0 n ad cz := ⟨by omega, fun j _ => by rw [Nat.zero_add]; exact ⟨rfl, fun _ => rfl⟩⟩
def gBack (ρ : Nat → Nat → Int32) (off n' : Nat) (ρ1 : Nat → Nat → Int32) : Nat → Nat → Int32 := fun k => if off ≤ k ∧ k < off + n' then ρ1 (k - off) else ρ k
theorem gP_sub {D : va_G} {cl : List vw_C} {H : Heap} {n off n' : Nat} {ad ad' : Nat → Nat} {cz cz' : Nat → (Nat → Int32) → va_E} {ρ : Nat → Nat → Int32} (hs : gSub n ad cz off n' ad' cz') (hP : va_P D cl (gWl n ad cz ρ) H) : va_P D cl (gWl n' ad' cz' (fun j => ρ (off + j))) H := by
  intro k q hq
  obtain ⟨hk, rfl⟩ := gWl_out hq
  obtain ⟨e1, e2⟩ := hs.2 k hk
  rw [e1, e2]
  exact hP (off + k) _ (gWl_get (by have := hs.1; omega))
theorem gInj_sub {n off n' : Nat} {ad ad' : Nat → Nat} {cz cz' : Nat → (Nat → Int32) → va_E} (hs : gSub n ad cz off n' ad' cz') (h : gInj n ad) : gInj n' ad' := by
  intro i j hi hj hij
  rw [(hs.2 i hi).1, (hs.2 j hj).1] at hij
  have := h (off + i) (off + j) (by have := hs.1; omega) (by have := hs.1; omega) hij
  omega
/-- behind a call on some of the cells: those anew, the others as they were -/
theorem gP_back {D : va_G} {cl : List vw_C} {H H1 : Heap} {n off n' : Nat} {ad ad' : Nat → Nat} {cz cz' : Nat → (Nat → Int32) → va_E} {ρ ρ1 : Nat → Nat → Int32} (hs : gSub n ad cz off n' ad' cz') (hi : gInj n ad) (hP : va_P D cl (gWl n ad cz ρ) H) (hk : ∀ q : Nat, q < H.size → ¬ gA n' ad' H.size q → H1[q]? = H[q]?) (hP1 : va_P D cl (gWl n' ad' cz' ρ1) H1) : va_P D cl (gWl n ad cz (gBack ρ off n' ρ1)) H1 := by
  intro k q hq
  obtain ⟨hkn, rfl⟩ := gWl_out hq
  by_cases hc : off ≤ k ∧ k < off + n'
  · have e0 : off + (k - off) = k := by omega
    obtain ⟨e1, e2⟩ := hs.2 (k - off) (by omega)
    have h := hP1 (k - off) _ (gWl_get (by omega))
    rw [e0] at e1
    have e3 : ∀ r, cz' (k - off) r = cz k r := fun r => by rw [e2 r, e0]
    rw [e1, e3] at h
    have e4 : gBack ρ off n' ρ1 k = ρ1 (k - off) := by simp only [gBack]; rw [if_pos hc]
    rw [e4]
    exact h
  · have e4 : gBack ρ off n' ρ1 k = ρ k := by simp only [gBack]; rw [if_neg hc]
    rw [e4]
    have h := hP k _ (gWl_get hkn)
    refine h.kept (hk _ h.lt ?_)
    rintro (⟨j, hj, ej⟩ | h9)
    · have ej : ad k = ad' j := ej
      rw [(hs.2 j hj).1] at ej
      have := hi k (off + j) hkn (by have := hs.1; omega) ej
      omega
    · have := h.lt
      exact absurd this (Nat.not_lt.mpr h9)
theorem gP_congr {D : va_G} {cl : List vw_C} {H : Heap} {n : Nat} {ad : Nat → Nat} {cz : Nat → (Nat → Int32) → va_E} {ρ ρ1 : Nat → Nat → Int32} (h : ∀ k, k < n → cz k (ρ k) = cz k (ρ1 k)) (hP : va_P D cl (gWl n ad cz ρ) H) : va_P D cl (gWl n ad cz ρ1) H := by
  have e : gWl n ad cz ρ1 = gWl n ad cz ρ := by
    apply List.ext_getElem?
    intro i
    by_cases hi : i < n
    · rw [gWl_get hi, gWl_get hi, h i hi]
    · rw [List.getElem?_eq_none (by simp [gWl]; omega), List.getElem?_eq_none (by simp [gWl]; omega)]
  rw [e]; exact hP
/-- what a layout says of a cell: an int field, a reference field, a row of ints, a row of references -/
def gFI (cz : Nat → (Nat → Int32) → va_E) (k ci j : Nat) : Prop := ∀ r : Nat → Int32, ∃ fs : List Value, cz k r = .inr (ci, fs) ∧ fs[j]? = some (.int (r j)) ∧ j < fs.length ∧ ∀ v : Int32, (.inr (ci, fs.set j (.int v)) : va_E) = cz k (upd r j v)
def gFR (cz : Nat → (Nat → Int32) → va_E) (ad : Nat → Nat) (k ci j k2 : Nat) : Prop := ∀ r : Nat → Int32, ∃ fs : List Value, cz k r = .inr (ci, fs) ∧ fs[j]? = some (.ref (ad k2))
def gOb (cz : Nat → (Nat → Int32) → va_E) (k ci : Nat) : Prop := ∀ r : Nat → Int32, ∃ fs : List Value, cz k r = .inr (ci, fs)
def gAI (cz : Nat → (Nat → Int32) → va_E) (cA : ClassId) (k len : Nat) : Prop := ∀ r : Nat → Int32, cz k r = .inl (cA, len, .inl r)
def gAR (cz : Nat → (Nat → Int32) → va_E) (ad : Nat → Nat) (cA : ClassId) (k len : Nat) (tgt : Nat → Nat) : Prop := ∀ r : Nat → Int32, ∃ f : Nat → Option Nat, cz k r = .inl (cA, len, .inr (.inr (.inr (.inr f)))) ∧ ∀ i, i < len → f i = some (ad (tgt i))
def gAL (cz : Nat → (Nat → Int32) → va_E) (cA : ClassId) (k len : Nat) : Prop := ∀ r : Nat → Int32, cz k r = .inl (cA, len, .inr (.inl (fun j => (r j).toInt64)))
/-- the words that want a premise of their own -/
def gNsw : List Cond := [.methodLinkNest "StreetOrgans" 9 ⟨"StreetOrgans$Pipes","<init>","()V"⟩ "StreetOrgans", .methodLinkNest "StreetOrgans" 25 ⟨"StreetOrgans$Tune","<init>","()V"⟩ "StreetOrgans", .methodLinkNest "StreetOrgans" 32 ⟨"StreetOrgans$Street","<init>","()V"⟩ "StreetOrgans", .castable "java/lang/IllegalStateException" "java/lang/IllegalStateException", .castable "java/lang/IndexOutOfBoundsException" "java/lang/IndexOutOfBoundsException", .castable "java/lang/IllegalArgumentException" "java/lang/IllegalArgumentException", .methodLinkNest "StreetOrgansModel" 37 ⟨"StreetOrgansModel$Pipes","<init>","()V"⟩ "StreetOrgansModel", .fieldLinkNest "StreetOrgansModel" 91 "StreetOrgansModel$Pipes" "day" "I" "StreetOrgansModel", .fieldLinkNest "StreetOrgansModel" 116 "StreetOrgansModel$Pipes" "worn" "[I" "StreetOrgansModel", .fieldLinkNest "StreetOrgansModel" 110 "StreetOrgansModel$Pipes" "off" "[I" "StreetOrgansModel", .fieldLinkNest "StreetOrgansModel" 123 "StreetOrgansModel$Pipes" "cricket" "[I" "StreetOrgansModel", .fieldLinkNest "StreetOrgansModel" 126 "StreetOrgansModel$Pipes" "sang" "[I" "StreetOrgansModel", .methodLinkNest "StreetOrgansModel$Pipes" 44 ⟨"StreetOrgansModel","held","(I)I"⟩ "StreetOrgansModel", .declares ⟨"java/lang/RuntimeException","<init>","()V"⟩, .declares ⟨"java/lang/RuntimeException","<init>","(Ljava/lang/String;)V"⟩, .declares ⟨"java/lang/Exception","<init>","()V"⟩, .declares ⟨"java/lang/Exception","<init>","(Ljava/lang/String;)V"⟩, .declares ⟨"java/lang/Throwable","<init>","()V"⟩, .declares ⟨"java/lang/Throwable","<init>","(Ljava/lang/String;)V"⟩]
def gNst (U : State) : Prop := ∀ w ∈ gNsw, va_Nw w U
theorem gNst_same {u U : State} (hv : u.vm = U.vm) (h : gNst u) : gNst U := fun w hw => va_Nw.same ((List.all_eq_true.mp (show gNsw.all Cond.onTables = true by decide +kernel)) w hw) hv (h w hw)
theorem gNst_warm {s U : State} (hW : s.WarmedH U.vm) (h : gNst s) : gNst U := by
  intro w hw
  have h1 := h w hw
  simp only [gNsw, List.mem_cons, List.not_mem_nil, or_false] at hw
  rcases hw with rfl | rfl | rfl | rfl | rfl | rfl | rfl | rfl | rfl | rfl | rfl | rfl | rfl | rfl | rfl | rfl | rfl | rfl | rfl
  · exact va_Nw.warmM hW h1
  · exact va_Nw.warmM hW h1
  · exact va_Nw.warmM hW h1
  · exact va_Nw.warmC hW h1
  · exact va_Nw.warmC hW h1
  · exact va_Nw.warmC hW h1
  · exact va_Nw.warmM hW h1
  · exact va_Nw.warmF hW h1
  · exact va_Nw.warmF hW h1
  · exact va_Nw.warmF hW h1
  · exact va_Nw.warmF hW h1
  · exact va_Nw.warmF hW h1
  · exact va_Nw.warmM hW h1
  · exact va_Nw.warmD hW h1
  · exact va_Nw.warmD hW h1
  · exact va_Nw.warmD hW h1
  · exact va_Nw.warmD hW h1
  · exact va_Nw.warmD hW h1
  · exact va_Nw.warmD hW h1
/-- an activation's fixed things -/
def gX (p : Program) (m : MethodId) (c : Code) (cc : ByteArray) (nL : Nat) (s : State) (args : Array Value) (Ts : List Cond) (own : String) (D : va_G) (cy : Nat → ClassId) (A : Nat → Prop) : Prop := CallFix p m c cc nL s args Ts own ∧ va_K D vwCl (gT cy) s ∧ (∀ q, s.heap.size ≤ q → A q) ∧ (∀ w ∈ wAll, w ∈ Ts) ∧ gNst s
/-- the walk, whatever the heap that holds the world -/
def GW (p : Program) (l : Launch) (e : Env) (R : Room) (s : State) (m : MethodId) (args : Array Value) (below : List Frame) (meth : Method) (c : Code) (Q : State → Prop) (nL : Nat) (D : va_G) (A : Nat → Prop) (n : Nat) (ad : Nat → Nat) (cz : Nat → (Nat → Int32) → va_E) (ρ : Nat → Nat → Int32) (cells slots pc : Nat) (ls : List (Nat × Value)) (st : List Value) : Prop :=
  ∀ (H : Heap) (locs : List Loc) (la : Array Slot), va_P D vwCl (gWl n ad cz ρ) H → va_D A (gWl n ad cz ρ) → va_S A s.heap H locs → lv_has la nL ls → W p l e R s m args below meth c H locs cells slots Q (F0 m pc la st)
section GWS
variable {p : Program} {l : Launch} {e : Env} {R : Room} {s : State} {m : MethodId} {args : Array Value} {below : List Frame} {meth : Method} {c : Code} {Q : State → Prop}
variable {cc : ByteArray} {nL : Nat} {Ts : List Cond} {own : String} {D : va_G} {cy : Nat → ClassId} {A : Nat → Prop}
variable {n : Nat} {ad : Nat → Nat} {cz : Nat → (Nat → Int32) → va_E} {ρ : Nat → Nat → Int32} {cells slots pc : Nat} {ls ls' : List (Nat × Value)} {st rest : List Value}

theorem g_iconst (X : gX p m c cc nL s args Ts own D cy A) {z : Int} {v : Int32} (hd : decode cc pc = .ok (.iconst z, 1)) (hv : Int32.ofInt z = v) (kk : GW p l e R s m args below meth c Q nL D A n ad cz ρ cells slots (pc + 1) ls (.int v :: st)) : GW p l e R s m args below meth c Q nL D A n ad cz ρ cells slots pc ls st := fun H locs la hP hD hS hl => lv_iconst X.1.1 X.1.2.1 hd hv (kk H locs la hP hD hS hl)
theorem g_bipush (X : gX p m c cc nL s args Ts own D cy A) {z : Int} {v : Int32} (hd : decode cc pc = .ok (.bipush z, 2)) (hv : (Int8.ofInt z).toInt32 = v) (kk : GW p l e R s m args below meth c Q nL D A n ad cz ρ cells slots (pc + 2) ls (.int v :: st)) : GW p l e R s m args below meth c Q nL D A n ad cz ρ cells slots pc ls st := fun H locs la hP hD hS hl => lv_bipush X.1.1 X.1.2.1 hd hv (kk H locs la hP hD hS hl)
theorem g_sipush (X : gX p m c cc nL s args Ts own D cy A) {z : Int} {v : Int32} (hd : decode cc pc = .ok (.sipush z, 3)) (hv : (Int16.ofInt z).toInt32 = v) (kk : GW p l e R s m args below meth c Q nL D A n ad cz ρ cells slots (pc + 3) ls (.int v :: st)) : GW p l e R s m args below meth c Q nL D A n ad cz ρ cells slots pc ls st := fun H locs la hP hD hS hl => lv_sipush X.1.1 X.1.2.1 hd hv (kk H locs la hP hD hS hl)
theorem g_lconst (X : gX p m c cc nL s args Ts own D cy A) {z : Fin 2} {v : Int64} (hd : decode cc pc = .ok (.lconst z, 1)) (hv : Int64.ofNat (z : Nat) = v) (kk : GW p l e R s m args below meth c Q nL D A n ad cz ρ cells slots (pc + 1) ls (.long v :: st)) : GW p l e R s m args below meth c Q nL D A n ad cz ρ cells slots pc ls st := fun H locs la hP hD hS hl => lv_lconst X.1.1 X.1.2.1 hd hv (kk H locs la hP hD hS hl)
theorem g_dconst0 (X : gX p m c cc nL s args Ts own D cy A)  (hd : decode cc pc = .ok (.dconst 0, 1)) (kk : GW p l e R s m args below meth c Q nL D A n ad cz ρ cells slots (pc + 1) ls (.double 0 :: st)) : GW p l e R s m args below meth c Q nL D A n ad cz ρ cells slots pc ls st := fun H locs la hP hD hS hl => lv_dconst0 X.1.1 X.1.2.1 hd (kk H locs la hP hD hS hl)
theorem g_iload_n (X : gX p m c cc nL s args Ts own D cy A) {k : Fin 4} {i : Nat} {x : Int32} (hd : decode cc pc = .ok (.iload_n k, 1)) (place : Nat) (hi : (k : Nat) = i) (hq : ls[place]? = some (i, .int x)) (kk : GW p l e R s m args below meth c Q nL D A n ad cz ρ cells slots (pc + 1) ls (.int x :: st)) : GW p l e R s m args below meth c Q nL D A n ad cz ρ cells slots pc ls st := fun H locs la hP hD hS hl => lv_iload_n X.1.1 X.1.2.1 hd hi (lv_at hl place hq) (kk H locs la hP hD hS hl)
theorem g_iload (X : gX p m c cc nL s args Ts own D cy A) {i : Nat} {x : Int32} (hd : decode cc pc = .ok (.iload i, 2)) (place : Nat) (hq : ls[place]? = some (i, .int x)) (kk : GW p l e R s m args below meth c Q nL D A n ad cz ρ cells slots (pc + 2) ls (.int x :: st)) : GW p l e R s m args below meth c Q nL D A n ad cz ρ cells slots pc ls st := fun H locs la hP hD hS hl => lv_iload X.1.1 X.1.2.1 hd (lv_at hl place hq) (kk H locs la hP hD hS hl)
theorem g_lload_n (X : gX p m c cc nL s args Ts own D cy A) {k : Fin 4} {i : Nat} {x : Int64} (hd : decode cc pc = .ok (.lload_n k, 1)) (place : Nat) (hi : (k : Nat) = i) (hq : ls[place]? = some (i, .long x)) (kk : GW p l e R s m args below meth c Q nL D A n ad cz ρ cells slots (pc + 1) ls (.long x :: st)) : GW p l e R s m args below meth c Q nL D A n ad cz ρ cells slots pc ls st := fun H locs la hP hD hS hl => lv_lload_n X.1.1 X.1.2.1 hd hi (lv_at hl place hq) (kk H locs la hP hD hS hl)
theorem g_lload (X : gX p m c cc nL s args Ts own D cy A) {i : Nat} {x : Int64} (hd : decode cc pc = .ok (.lload i, 2)) (place : Nat) (hq : ls[place]? = some (i, .long x)) (kk : GW p l e R s m args below meth c Q nL D A n ad cz ρ cells slots (pc + 2) ls (.long x :: st)) : GW p l e R s m args below meth c Q nL D A n ad cz ρ cells slots pc ls st := fun H locs la hP hD hS hl => lv_lload X.1.1 X.1.2.1 hd (lv_at hl place hq) (kk H locs la hP hD hS hl)
theorem g_aload_n (X : gX p m c cc nL s args Ts own D cy A) {k : Fin 4} {i : Nat} {x : Nat} (hd : decode cc pc = .ok (.aload_n k, 1)) (place : Nat) (hi : (k : Nat) = i) (hq : ls[place]? = some (i, .ref x)) (kk : GW p l e R s m args below meth c Q nL D A n ad cz ρ cells slots (pc + 1) ls (.ref x :: st)) : GW p l e R s m args below meth c Q nL D A n ad cz ρ cells slots pc ls st := fun H locs la hP hD hS hl => lv_aload_n X.1.1 X.1.2.1 hd hi (lv_at hl place hq) (kk H locs la hP hD hS hl)
theorem g_aload (X : gX p m c cc nL s args Ts own D cy A) {i : Nat} {x : Nat} (hd : decode cc pc = .ok (.aload i, 2)) (place : Nat) (hq : ls[place]? = some (i, .ref x)) (kk : GW p l e R s m args below meth c Q nL D A n ad cz ρ cells slots (pc + 2) ls (.ref x :: st)) : GW p l e R s m args below meth c Q nL D A n ad cz ρ cells slots pc ls st := fun H locs la hP hD hS hl => lv_aload X.1.1 X.1.2.1 hd (lv_at hl place hq) (kk H locs la hP hD hS hl)
theorem g_dload_n (X : gX p m c cc nL s args Ts own D cy A) {k : Fin 4} {i : Nat} {x : UInt64} (hd : decode cc pc = .ok (.dload_n k, 1)) (place : Nat) (hi : (k : Nat) = i) (hq : ls[place]? = some (i, .double x)) (kk : GW p l e R s m args below meth c Q nL D A n ad cz ρ cells slots (pc + 1) ls (.double x :: st)) : GW p l e R s m args below meth c Q nL D A n ad cz ρ cells slots pc ls st := fun H locs la hP hD hS hl => lv_dload_n X.1.1 X.1.2.1 hd hi (lv_at hl place hq) (kk H locs la hP hD hS hl)
theorem g_dload (X : gX p m c cc nL s args Ts own D cy A) {i : Nat} {x : UInt64} (hd : decode cc pc = .ok (.dload i, 2)) (place : Nat) (hq : ls[place]? = some (i, .double x)) (kk : GW p l e R s m args below meth c Q nL D A n ad cz ρ cells slots (pc + 2) ls (.double x :: st)) : GW p l e R s m args below meth c Q nL D A n ad cz ρ cells slots pc ls st := fun H locs la hP hD hS hl => lv_dload X.1.1 X.1.2.1 hd (lv_at hl place hq) (kk H locs la hP hD hS hl)
theorem g_istore_n (X : gX p m c cc nL s args Ts own D cy A) {k : Fin 4} {i : Nat} {x : Int32} (ls' : List (Nat × Value)) (hd : decode cc pc = .ok (.istore_n k, 1)) (hi : (k : Nat) = i) (hn : i < nL) (hq : (i, Value.int x) :: ls.filter (fun q => !(q.1 == i) && !(q.1 + 1 == i && q.2.category == 2)) = ls') (kk : GW p l e R s m args below meth c Q nL D A n ad cz ρ cells slots (pc + 1) ls' st) : GW p l e R s m args below meth c Q nL D A n ad cz ρ cells slots pc ls (.int x :: st) := fun H locs la hP hD hS hl => lv_istore_n X.1.1 X.1.2.1 hd hi hl hn hq (fun la' hl' => kk H locs la' hP hD hS hl')
theorem g_istore (X : gX p m c cc nL s args Ts own D cy A) {i : Nat} {x : Int32} (ls' : List (Nat × Value)) (hd : decode cc pc = .ok (.istore i, 2)) (hn : i < nL) (hq : (i, Value.int x) :: ls.filter (fun q => !(q.1 == i) && !(q.1 + 1 == i && q.2.category == 2)) = ls') (kk : GW p l e R s m args below meth c Q nL D A n ad cz ρ cells slots (pc + 2) ls' st) : GW p l e R s m args below meth c Q nL D A n ad cz ρ cells slots pc ls (.int x :: st) := fun H locs la hP hD hS hl => lv_istore X.1.1 X.1.2.1 hd hl hn hq (fun la' hl' => kk H locs la' hP hD hS hl')
theorem g_astore_n (X : gX p m c cc nL s args Ts own D cy A) {k : Fin 4} {i : Nat} {x : Nat} (ls' : List (Nat × Value)) (hd : decode cc pc = .ok (.astore_n k, 1)) (hi : (k : Nat) = i) (hn : i < nL) (hq : (i, Value.ref x) :: ls.filter (fun q => !(q.1 == i) && !(q.1 + 1 == i && q.2.category == 2)) = ls') (kk : GW p l e R s m args below meth c Q nL D A n ad cz ρ cells slots (pc + 1) ls' st) : GW p l e R s m args below meth c Q nL D A n ad cz ρ cells slots pc ls (.ref x :: st) := fun H locs la hP hD hS hl => lv_astore_n X.1.1 X.1.2.1 hd hi hl hn hq (fun la' hl' => kk H locs la' hP hD hS hl')
theorem g_astore (X : gX p m c cc nL s args Ts own D cy A) {i : Nat} {x : Nat} (ls' : List (Nat × Value)) (hd : decode cc pc = .ok (.astore i, 2)) (hn : i < nL) (hq : (i, Value.ref x) :: ls.filter (fun q => !(q.1 == i) && !(q.1 + 1 == i && q.2.category == 2)) = ls') (kk : GW p l e R s m args below meth c Q nL D A n ad cz ρ cells slots (pc + 2) ls' st) : GW p l e R s m args below meth c Q nL D A n ad cz ρ cells slots pc ls (.ref x :: st) := fun H locs la hP hD hS hl => lv_astore X.1.1 X.1.2.1 hd hl hn hq (fun la' hl' => kk H locs la' hP hD hS hl')
theorem g_lstore_n (X : gX p m c cc nL s args Ts own D cy A) {k : Fin 4} {i : Nat} {x : Int64} (ls' : List (Nat × Value)) (hd : decode cc pc = .ok (.lstore_n k, 1)) (hi : (k : Nat) = i) (hn : i + 1 < nL) (hq : (i, Value.long x) :: ls.filter (fun q => !(q.1 == i) && (!(q.1 == i + 1) && !(q.1 + 1 == i && q.2.category == 2))) = ls') (kk : GW p l e R s m args below meth c Q nL D A n ad cz ρ cells slots (pc + 1) ls' st) : GW p l e R s m args below meth c Q nL D A n ad cz ρ cells slots pc ls (.long x :: st) := fun H locs la hP hD hS hl => lv_lstore_n X.1.1 X.1.2.1 hd hi hl hn hq (fun la' hl' => kk H locs la' hP hD hS hl')
theorem g_lstore (X : gX p m c cc nL s args Ts own D cy A) {i : Nat} {x : Int64} (ls' : List (Nat × Value)) (hd : decode cc pc = .ok (.lstore i, 2)) (hn : i + 1 < nL) (hq : (i, Value.long x) :: ls.filter (fun q => !(q.1 == i) && (!(q.1 == i + 1) && !(q.1 + 1 == i && q.2.category == 2))) = ls') (kk : GW p l e R s m args below meth c Q nL D A n ad cz ρ cells slots (pc + 2) ls' st) : GW p l e R s m args below meth c Q nL D A n ad cz ρ cells slots pc ls (.long x :: st) := fun H locs la hP hD hS hl => lv_lstore X.1.1 X.1.2.1 hd hl hn hq (fun la' hl' => kk H locs la' hP hD hS hl')
theorem g_dstore_n (X : gX p m c cc nL s args Ts own D cy A) {k : Fin 4} {i : Nat} {x : UInt64} (ls' : List (Nat × Value)) (hd : decode cc pc = .ok (.dstore_n k, 1)) (hi : (k : Nat) = i) (hn : i + 1 < nL) (hq : (i, Value.double x) :: ls.filter (fun q => !(q.1 == i) && (!(q.1 == i + 1) && !(q.1 + 1 == i && q.2.category == 2))) = ls') (kk : GW p l e R s m args below meth c Q nL D A n ad cz ρ cells slots (pc + 1) ls' st) : GW p l e R s m args below meth c Q nL D A n ad cz ρ cells slots pc ls (.double x :: st) := fun H locs la hP hD hS hl => lv_dstore_n X.1.1 X.1.2.1 hd hi hl hn hq (fun la' hl' => kk H locs la' hP hD hS hl')
theorem g_dstore (X : gX p m c cc nL s args Ts own D cy A) {i : Nat} {x : UInt64} (ls' : List (Nat × Value)) (hd : decode cc pc = .ok (.dstore i, 2)) (hn : i + 1 < nL) (hq : (i, Value.double x) :: ls.filter (fun q => !(q.1 == i) && (!(q.1 == i + 1) && !(q.1 + 1 == i && q.2.category == 2))) = ls') (kk : GW p l e R s m args below meth c Q nL D A n ad cz ρ cells slots (pc + 2) ls' st) : GW p l e R s m args below meth c Q nL D A n ad cz ρ cells slots pc ls (.double x :: st) := fun H locs la hP hD hS hl => lv_dstore X.1.1 X.1.2.1 hd hl hn hq (fun la' hl' => kk H locs la' hP hD hS hl')
theorem g_iinc (X : gX p m c cc nL s args Ts own D cy A) {i : Nat} {z : Int} {x : Int32} (v : Int32) (ls' : List (Nat × Value)) (place : Nat) (hd : decode cc pc = .ok (.iinc i z, 3)) (hq : ls[place]? = some (i, .int x)) (hv : x + Int32.ofInt z = v) (hn : i < nL) (hf : (i, Value.int v) :: ls.filter (fun q => !(q.1 == i) && !(q.1 + 1 == i && q.2.category == 2)) = ls') (kk : GW p l e R s m args below meth c Q nL D A n ad cz ρ cells slots (pc + 3) ls' st) : GW p l e R s m args below meth c Q nL D A n ad cz ρ cells slots pc ls st := fun H locs la hP hD hS hl => lv_iinc X.1.1 X.1.2.1 hd hl hq hv hn hf (fun la' hl' => kk H locs la' hP hD hS hl')
theorem g_iadd (X : gX p m c cc nL s args Ts own D cy A) {x y : Int32} (hd : decode cc pc = .ok (.iadd, 1)) (kk : GW p l e R s m args below meth c Q nL D A n ad cz ρ cells slots (pc + 1) ls (.int (x + y) :: st)) : GW p l e R s m args below meth c Q nL D A n ad cz ρ cells slots pc ls (.int y :: .int x :: st) := fun H locs la hP hD hS hl => lv_iadd X.1.1 X.1.2.1 hd (kk H locs la hP hD hS hl)
theorem g_isub (X : gX p m c cc nL s args Ts own D cy A) {x y : Int32} (hd : decode cc pc = .ok (.isub, 1)) (kk : GW p l e R s m args below meth c Q nL D A n ad cz ρ cells slots (pc + 1) ls (.int (x - y) :: st)) : GW p l e R s m args below meth c Q nL D A n ad cz ρ cells slots pc ls (.int y :: .int x :: st) := fun H locs la hP hD hS hl => lv_isub X.1.1 X.1.2.1 hd (kk H locs la hP hD hS hl)
theorem g_imul (X : gX p m c cc nL s args Ts own D cy A) {x y : Int32} (hd : decode cc pc = .ok (.imul, 1)) (kk : GW p l e R s m args below meth c Q nL D A n ad cz ρ cells slots (pc + 1) ls (.int (x * y) :: st)) : GW p l e R s m args below meth c Q nL D A n ad cz ρ cells slots pc ls (.int y :: .int x :: st) := fun H locs la hP hD hS hl => lv_imul X.1.1 X.1.2.1 hd (kk H locs la hP hD hS hl)
theorem g_iand (X : gX p m c cc nL s args Ts own D cy A) {x y : Int32} (hd : decode cc pc = .ok (.iand, 1)) (kk : GW p l e R s m args below meth c Q nL D A n ad cz ρ cells slots (pc + 1) ls (.int (x &&& y) :: st)) : GW p l e R s m args below meth c Q nL D A n ad cz ρ cells slots pc ls (.int y :: .int x :: st) := fun H locs la hP hD hS hl => lv_iand X.1.1 X.1.2.1 hd (kk H locs la hP hD hS hl)
theorem g_ishr (X : gX p m c cc nL s args Ts own D cy A) {x y : Int32} (hd : decode cc pc = .ok (.ishr, 1)) (kk : GW p l e R s m args below meth c Q nL D A n ad cz ρ cells slots (pc + 1) ls (.int (x >>> (y &&& 31)) :: st)) : GW p l e R s m args below meth c Q nL D A n ad cz ρ cells slots pc ls (.int y :: .int x :: st) := fun H locs la hP hD hS hl => lv_ishr X.1.1 X.1.2.1 hd (kk H locs la hP hD hS hl)
theorem g_ixor (X : gX p m c cc nL s args Ts own D cy A) {x y : Int32} (hd : decode cc pc = .ok (.ixor, 1)) (kk : GW p l e R s m args below meth c Q nL D A n ad cz ρ cells slots (pc + 1) ls (.int (x ^^^ y) :: st)) : GW p l e R s m args below meth c Q nL D A n ad cz ρ cells slots pc ls (.int y :: .int x :: st) := fun H locs la hP hD hS hl => lv_ixor X.1.1 X.1.2.1 hd (kk H locs la hP hD hS hl)
theorem g_ladd (X : gX p m c cc nL s args Ts own D cy A) {x y : Int64} (hd : decode cc pc = .ok (.ladd, 1)) (kk : GW p l e R s m args below meth c Q nL D A n ad cz ρ cells slots (pc + 1) ls (.long (x + y) :: st)) : GW p l e R s m args below meth c Q nL D A n ad cz ρ cells slots pc ls (.long y :: .long x :: st) := fun H locs la hP hD hS hl => lv_ladd X.1.1 X.1.2.1 hd (kk H locs la hP hD hS hl)
theorem g_lmul (X : gX p m c cc nL s args Ts own D cy A) {x y : Int64} (hd : decode cc pc = .ok (.lmul, 1)) (kk : GW p l e R s m args below meth c Q nL D A n ad cz ρ cells slots (pc + 1) ls (.long (x * y) :: st)) : GW p l e R s m args below meth c Q nL D A n ad cz ρ cells slots pc ls (.long y :: .long x :: st) := fun H locs la hP hD hS hl => lv_lmul X.1.1 X.1.2.1 hd (kk H locs la hP hD hS hl)
theorem g_idiv (X : gX p m c cc nL s args Ts own D cy A) {x y : Int32} (hd : decode cc pc = .ok (.idiv, 1)) (hne : ¬ y = 0) (kk : GW p l e R s m args below meth c Q nL D A n ad cz ρ cells slots (pc + 1) ls (.int (x / y) :: st)) : GW p l e R s m args below meth c Q nL D A n ad cz ρ cells slots pc ls (.int y :: .int x :: st) := fun H locs la hP hD hS hl => lv_idiv X.1.1 X.1.2.1 hd hne (kk H locs la hP hD hS hl)
theorem g_irem (X : gX p m c cc nL s args Ts own D cy A) {x y : Int32} (hd : decode cc pc = .ok (.irem, 1)) (hne : ¬ y = 0) (kk : GW p l e R s m args below meth c Q nL D A n ad cz ρ cells slots (pc + 1) ls (.int (x - x / y * y) :: st)) : GW p l e R s m args below meth c Q nL D A n ad cz ρ cells slots pc ls (.int y :: .int x :: st) := fun H locs la hP hD hS hl => lv_irem X.1.1 X.1.2.1 hd hne (kk H locs la hP hD hS hl)
theorem g_ineg (X : gX p m c cc nL s args Ts own D cy A) {x : Int32} (hd : decode cc pc = .ok (.ineg, 1)) (kk : GW p l e R s m args below meth c Q nL D A n ad cz ρ cells slots (pc + 1) ls (.int (-x) :: st)) : GW p l e R s m args below meth c Q nL D A n ad cz ρ cells slots pc ls (.int x :: st) := fun H locs la hP hD hS hl => lv_ineg X.1.1 X.1.2.1 hd (kk H locs la hP hD hS hl)
theorem g_i2l (X : gX p m c cc nL s args Ts own D cy A) {x : Int32} (hd : decode cc pc = .ok (.i2l, 1)) (kk : GW p l e R s m args below meth c Q nL D A n ad cz ρ cells slots (pc + 1) ls (.long x.toInt64 :: st)) : GW p l e R s m args below meth c Q nL D A n ad cz ρ cells slots pc ls (.int x :: st) := fun H locs la hP hD hS hl => lv_i2l X.1.1 X.1.2.1 hd rfl (kk H locs la hP hD hS hl)
theorem g_i2d (X : gX p m c cc nL s args Ts own D cy A) {x : Int32} (hd : decode cc pc = .ok (.i2d, 1)) (kk : GW p l e R s m args below meth c Q nL D A n ad cz ρ cells slots (pc + 1) ls (.double (FP.i2d x) :: st)) : GW p l e R s m args below meth c Q nL D A n ad cz ρ cells slots pc ls (.int x :: st) := fun H locs la hP hD hS hl => lv_i2d X.1.1 X.1.2.1 hd (kk H locs la hP hD hS hl)
theorem g_lcmp (X : gX p m c cc nL s args Ts own D cy A) {x y : Int64} (hd : decode cc pc = .ok (.lcmp, 1)) (kk : GW p l e R s m args below meth c Q nL D A n ad cz ρ cells slots (pc + 1) ls (.int (lg_cmp x y) :: st)) : GW p l e R s m args below meth c Q nL D A n ad cz ρ cells slots pc ls (.long y :: .long x :: st) := fun H locs la hP hD hS hl => W.lcmp X.1.1 X.1.2.1 hd (kk H locs la hP hD hS hl)
theorem g_dcmp (X : gX p m c cc nL s args Ts own D cy A) {x y : UInt64} {op : CmpOp} (hd : decode cc pc = .ok (.dcmp op, 1)) (kk : GW p l e R s m args below meth c Q nL D A n ad cz ρ cells slots (pc + 1) ls (.int (Op.cmpValue (FP.dcmp x y) op) :: st)) : GW p l e R s m args below meth c Q nL D A n ad cz ρ cells slots pc ls (.double y :: .double x :: st) := fun H locs la hP hD hS hl => lv_dcmp X.1.1 X.1.2.1 hd (kk H locs la hP hD hS hl)
theorem g_ddiv (X : gX p m c cc nL s args Ts own D cy A) {x y : UInt64} (hd : decode cc pc = .ok (.ddiv, 1)) (hne : vf_n64 (FP.ddiv x y)) (kk : GW p l e R s m args below meth c Q nL D A n ad cz ρ cells slots (pc + 1) ls (.double (FP.ddiv x y) :: st)) : GW p l e R s m args below meth c Q nL D A n ad cz ρ cells slots pc ls (.double y :: .double x :: st) := fun H locs la hP hD hS hl => lv_ddiv X.1.1 X.1.2.1 hd hne (kk H locs la hP hD hS hl)
theorem g_dup (X : gX p m c cc nL s args Ts own D cy A) {va : Value} (hd : decode cc pc = .ok (.dup, 1)) (hva : va.category = 1) (kk : GW p l e R s m args below meth c Q nL D A n ad cz ρ cells slots (pc + 1) ls (va :: va :: st)) : GW p l e R s m args below meth c Q nL D A n ad cz ρ cells slots pc ls (va :: st) := fun H locs la hP hD hS hl => lv_dup X.1.1 X.1.2.1 hd hva (kk H locs la hP hD hS hl)
theorem g_pop (X : gX p m c cc nL s args Ts own D cy A) {va : Value} (hd : decode cc pc = .ok (.pop, 1)) (hva : va.category = 1) (kk : GW p l e R s m args below meth c Q nL D A n ad cz ρ cells slots (pc + 1) ls st) : GW p l e R s m args below meth c Q nL D A n ad cz ρ cells slots pc ls (va :: st) := fun H locs la hP hD hS hl => lv_pop X.1.1 X.1.2.1 hd hva (kk H locs la hP hD hS hl)
theorem g_dup_x1 (X : gX p m c cc nL s args Ts own D cy A) {va vb : Value} (hd : decode cc pc = .ok (.dup_x1, 1)) (hva : va.category = 1) (hvb : vb.category = 1) (kk : GW p l e R s m args below meth c Q nL D A n ad cz ρ cells slots (pc + 1) ls (va :: vb :: va :: st)) : GW p l e R s m args below meth c Q nL D A n ad cz ρ cells slots pc ls (va :: vb :: st) := fun H locs la hP hD hS hl => lv_dup_x1 X.1.1 X.1.2.1 hd hva hvb (kk H locs la hP hD hS hl)
theorem g_dup2 (X : gX p m c cc nL s args Ts own D cy A) {va vb : Value} (hd : decode cc pc = .ok (.dup2, 1)) (hva : va.category = 1) (hvb : vb.category = 1) (kk : GW p l e R s m args below meth c Q nL D A n ad cz ρ cells slots (pc + 1) ls (va :: vb :: va :: vb :: st)) : GW p l e R s m args below meth c Q nL D A n ad cz ρ cells slots pc ls (va :: vb :: st) := fun H locs la hP hD hS hl => lv_dup2_11 X.1.1 X.1.2.1 hd hva hvb (kk H locs la hP hD hS hl)
theorem g_if_eq (X : gX p m c cc nL s args Ts own D cy A) {x : Int32} {off : Int} (tgt : Nat) (hd : decode cc pc = .ok (.ifCond .eq off, 3)) (ht : (pc : Int) + off = (tgt : Int)) (kt : x = 0 → GW p l e R s m args below meth c Q nL D A n ad cz ρ cells slots tgt ls st) (kf : ¬ x = 0 → GW p l e R s m args below meth c Q nL D A n ad cz ρ cells slots (pc + 3) ls st) : GW p l e R s m args below meth c Q nL D A n ad cz ρ cells slots pc ls (.int x :: st) := fun H locs la hP hD hS hl => lv_if_eq X.1.1 X.1.2.1 hd ht (fun h => kt h H locs la hP hD hS hl) (fun h => kf h H locs la hP hD hS hl)
theorem g_icmp_eq (X : gX p m c cc nL s args Ts own D cy A) {x y : Int32} {off : Int} (tgt : Nat) (hd : decode cc pc = .ok (.if_icmp .eq off, 3)) (ht : (pc : Int) + off = (tgt : Int)) (kt : x = y → GW p l e R s m args below meth c Q nL D A n ad cz ρ cells slots tgt ls st) (kf : ¬ x = y → GW p l e R s m args below meth c Q nL D A n ad cz ρ cells slots (pc + 3) ls st) : GW p l e R s m args below meth c Q nL D A n ad cz ρ cells slots pc ls (.int y :: .int x :: st) := fun H locs la hP hD hS hl => lv_icmp_eq X.1.1 X.1.2.1 hd ht (fun h => kt h H locs la hP hD hS hl) (fun h => kf h H locs la hP hD hS hl)
theorem g_if_ne (X : gX p m c cc nL s args Ts own D cy A) {x : Int32} {off : Int} (tgt : Nat) (hd : decode cc pc = .ok (.ifCond .ne off, 3)) (ht : (pc : Int) + off = (tgt : Int)) (kt : ¬ x = 0 → GW p l e R s m args below meth c Q nL D A n ad cz ρ cells slots tgt ls st) (kf : x = 0 → GW p l e R s m args below meth c Q nL D A n ad cz ρ cells slots (pc + 3) ls st) : GW p l e R s m args below meth c Q nL D A n ad cz ρ cells slots pc ls (.int x :: st) := fun H locs la hP hD hS hl => lv_if_ne X.1.1 X.1.2.1 hd ht (fun h => kt h H locs la hP hD hS hl) (fun h => kf h H locs la hP hD hS hl)
theorem g_icmp_ne (X : gX p m c cc nL s args Ts own D cy A) {x y : Int32} {off : Int} (tgt : Nat) (hd : decode cc pc = .ok (.if_icmp .ne off, 3)) (ht : (pc : Int) + off = (tgt : Int)) (kt : ¬ x = y → GW p l e R s m args below meth c Q nL D A n ad cz ρ cells slots tgt ls st) (kf : x = y → GW p l e R s m args below meth c Q nL D A n ad cz ρ cells slots (pc + 3) ls st) : GW p l e R s m args below meth c Q nL D A n ad cz ρ cells slots pc ls (.int y :: .int x :: st) := fun H locs la hP hD hS hl => lv_icmp_ne X.1.1 X.1.2.1 hd ht (fun h => kt h H locs la hP hD hS hl) (fun h => kf h H locs la hP hD hS hl)
theorem g_if_lt (X : gX p m c cc nL s args Ts own D cy A) {x : Int32} {off : Int} (tgt : Nat) (hd : decode cc pc = .ok (.ifCond .lt off, 3)) (ht : (pc : Int) + off = (tgt : Int)) (kt : x < 0 → GW p l e R s m args below meth c Q nL D A n ad cz ρ cells slots tgt ls st) (kf : ¬ x < 0 → GW p l e R s m args below meth c Q nL D A n ad cz ρ cells slots (pc + 3) ls st) : GW p l e R s m args below meth c Q nL D A n ad cz ρ cells slots pc ls (.int x :: st) := fun H locs la hP hD hS hl => lv_if_lt X.1.1 X.1.2.1 hd ht (fun h => kt h H locs la hP hD hS hl) (fun h => kf h H locs la hP hD hS hl)
theorem g_icmp_lt (X : gX p m c cc nL s args Ts own D cy A) {x y : Int32} {off : Int} (tgt : Nat) (hd : decode cc pc = .ok (.if_icmp .lt off, 3)) (ht : (pc : Int) + off = (tgt : Int)) (kt : x < y → GW p l e R s m args below meth c Q nL D A n ad cz ρ cells slots tgt ls st) (kf : ¬ x < y → GW p l e R s m args below meth c Q nL D A n ad cz ρ cells slots (pc + 3) ls st) : GW p l e R s m args below meth c Q nL D A n ad cz ρ cells slots pc ls (.int y :: .int x :: st) := fun H locs la hP hD hS hl => lv_icmp_lt X.1.1 X.1.2.1 hd ht (fun h => kt h H locs la hP hD hS hl) (fun h => kf h H locs la hP hD hS hl)
theorem g_if_ge (X : gX p m c cc nL s args Ts own D cy A) {x : Int32} {off : Int} (tgt : Nat) (hd : decode cc pc = .ok (.ifCond .ge off, 3)) (ht : (pc : Int) + off = (tgt : Int)) (kt : 0 ≤ x → GW p l e R s m args below meth c Q nL D A n ad cz ρ cells slots tgt ls st) (kf : ¬ 0 ≤ x → GW p l e R s m args below meth c Q nL D A n ad cz ρ cells slots (pc + 3) ls st) : GW p l e R s m args below meth c Q nL D A n ad cz ρ cells slots pc ls (.int x :: st) := fun H locs la hP hD hS hl => lv_if_ge X.1.1 X.1.2.1 hd ht (fun h => kt h H locs la hP hD hS hl) (fun h => kf h H locs la hP hD hS hl)
theorem g_icmp_ge (X : gX p m c cc nL s args Ts own D cy A) {x y : Int32} {off : Int} (tgt : Nat) (hd : decode cc pc = .ok (.if_icmp .ge off, 3)) (ht : (pc : Int) + off = (tgt : Int)) (kt : y ≤ x → GW p l e R s m args below meth c Q nL D A n ad cz ρ cells slots tgt ls st) (kf : ¬ y ≤ x → GW p l e R s m args below meth c Q nL D A n ad cz ρ cells slots (pc + 3) ls st) : GW p l e R s m args below meth c Q nL D A n ad cz ρ cells slots pc ls (.int y :: .int x :: st) := fun H locs la hP hD hS hl => lv_icmp_ge X.1.1 X.1.2.1 hd ht (fun h => kt h H locs la hP hD hS hl) (fun h => kf h H locs la hP hD hS hl)
theorem g_if_gt (X : gX p m c cc nL s args Ts own D cy A) {x : Int32} {off : Int} (tgt : Nat) (hd : decode cc pc = .ok (.ifCond .gt off, 3)) (ht : (pc : Int) + off = (tgt : Int)) (kt : 0 < x → GW p l e R s m args below meth c Q nL D A n ad cz ρ cells slots tgt ls st) (kf : ¬ 0 < x → GW p l e R s m args below meth c Q nL D A n ad cz ρ cells slots (pc + 3) ls st) : GW p l e R s m args below meth c Q nL D A n ad cz ρ cells slots pc ls (.int x :: st) := fun H locs la hP hD hS hl => lv_if_gt X.1.1 X.1.2.1 hd ht (fun h => kt h H locs la hP hD hS hl) (fun h => kf h H locs la hP hD hS hl)
theorem g_icmp_gt (X : gX p m c cc nL s args Ts own D cy A) {x y : Int32} {off : Int} (tgt : Nat) (hd : decode cc pc = .ok (.if_icmp .gt off, 3)) (ht : (pc : Int) + off = (tgt : Int)) (kt : y < x → GW p l e R s m args below meth c Q nL D A n ad cz ρ cells slots tgt ls st) (kf : ¬ y < x → GW p l e R s m args below meth c Q nL D A n ad cz ρ cells slots (pc + 3) ls st) : GW p l e R s m args below meth c Q nL D A n ad cz ρ cells slots pc ls (.int y :: .int x :: st) := fun H locs la hP hD hS hl => lv_icmp_gt X.1.1 X.1.2.1 hd ht (fun h => kt h H locs la hP hD hS hl) (fun h => kf h H locs la hP hD hS hl)
theorem g_if_le (X : gX p m c cc nL s args Ts own D cy A) {x : Int32} {off : Int} (tgt : Nat) (hd : decode cc pc = .ok (.ifCond .le off, 3)) (ht : (pc : Int) + off = (tgt : Int)) (kt : x ≤ 0 → GW p l e R s m args below meth c Q nL D A n ad cz ρ cells slots tgt ls st) (kf : ¬ x ≤ 0 → GW p l e R s m args below meth c Q nL D A n ad cz ρ cells slots (pc + 3) ls st) : GW p l e R s m args below meth c Q nL D A n ad cz ρ cells slots pc ls (.int x :: st) := fun H locs la hP hD hS hl => lv_if_le X.1.1 X.1.2.1 hd ht (fun h => kt h H locs la hP hD hS hl) (fun h => kf h H locs la hP hD hS hl)
theorem g_icmp_le (X : gX p m c cc nL s args Ts own D cy A) {x y : Int32} {off : Int} (tgt : Nat) (hd : decode cc pc = .ok (.if_icmp .le off, 3)) (ht : (pc : Int) + off = (tgt : Int)) (kt : x ≤ y → GW p l e R s m args below meth c Q nL D A n ad cz ρ cells slots tgt ls st) (kf : ¬ x ≤ y → GW p l e R s m args below meth c Q nL D A n ad cz ρ cells slots (pc + 3) ls st) : GW p l e R s m args below meth c Q nL D A n ad cz ρ cells slots pc ls (.int y :: .int x :: st) := fun H locs la hP hD hS hl => lv_icmp_le X.1.1 X.1.2.1 hd ht (fun h => kt h H locs la hP hD hS hl) (fun h => kf h H locs la hP hD hS hl)
theorem g_goto (X : gX p m c cc nL s args Ts own D cy A) {off : Int} (tgt : Nat) (hd : decode cc pc = .ok (.goto off, 3)) (ht : (pc : Int) + off = (tgt : Int)) (kk : GW p l e R s m args below meth c Q nL D A n ad cz ρ cells slots tgt ls st) : GW p l e R s m args below meth c Q nL D A n ad cz ρ cells slots pc ls st := fun H locs la hP hD hS hl => lv_goto X.1.1 X.1.2.1 hd ht (kk H locs la hP hD hS hl)
theorem g_tableOut (X : gX p m c cc nL s args Ts own D cy A) {dflt lo hi : Int} {offs : Array Int} {len : Nat} {x : Int32} (tgt : Nat) (hd : decode cc pc = .ok (.tableswitch dflt lo hi offs, len)) (h : x.toInt < lo ∨ hi < x.toInt) (ht : (pc : Int) + dflt = (tgt : Int)) (kk : GW p l e R s m args below meth c Q nL D A n ad cz ρ cells slots tgt ls st) : GW p l e R s m args below meth c Q nL D A n ad cz ρ cells slots pc ls (.int x :: st) := fun H locs la hP hD hS hl => lv_tableOut X.1.1 X.1.2.1 hd h ht (kk H locs la hP hD hS hl)
theorem g_tableIn (X : gX p m c cc nL s args Ts own D cy A) {dflt lo hi : Int} {offs : Array Int} {len : Nat} {x : Int32} {off : Int} (tgt : Nat) (hd : decode cc pc = .ok (.tableswitch dflt lo hi offs, len)) (h1 : ¬ x.toInt < lo) (h2 : ¬ hi < x.toInt) (ho : offs[(x.toInt - lo).toNat]? = some off) (ht : (pc : Int) + off = (tgt : Int)) (kk : GW p l e R s m args below meth c Q nL D A n ad cz ρ cells slots tgt ls st) : GW p l e R s m args below meth c Q nL D A n ad cz ρ cells slots pc ls (.int x :: st) := fun H locs la hP hD hS hl => lv_tableIn X.1.1 X.1.2.1 hd h1 h2 ho ht (kk H locs la hP hD hS hl)
theorem g_ldc2 (X : gX p m c cc nL s args Ts own D cy A) {index : Nat} {v : Int64} (hw : Cond.constantLong own index v ∈ wAll) (hd : decode cc pc = .ok (.ldc2_w index, 3)) (kk : GW p l e R s m args below meth c Q nL D A n ad cz ρ cells slots (pc + 3) ls (.long v :: st)) : GW p l e R s m args below meth c Q nL D A n ad cz ρ cells slots pc ls st := fun H locs la hP hD hS hl => lv_ldc2 X.1.1 X.1.2.1 X.1.2.2.2.1 (X.1.2.2.2.2 _ (X.2.2.2.1 _ hw)) hd (kk H locs la hP hD hS hl)
theorem g_geti (X : gX p m c cc nL s args Ts own D cy A) {ref C : String} {T : u_T} {N ci index : Nat} (k : Nat) (hk : k < n) (j : Nat) (hj : j < N) (hin : ∀ w ∈ u_ws C T N, w ∈ wAll) (hc : vwCl[ci]? = some (C, T, N)) (hw : Cond.fieldLink own index ref (T j).2.1 (T j).2.2.1 ∈ wAll) (hsame : (T j).1 = ref) (hF : gFI cz k ci j) (hd : decode cc pc = .ok (.getfield index, 3)) (kk : GW p l e R s m args below meth c Q nL D A n ad cz ρ cells slots (pc + 3) ls (.int (ρ k j) :: st)) : GW p l e R s m args below meth c Q nL D A n ad cz ρ cells slots pc ls (.ref (ad k) :: st) := fun H locs la hP hD hS hl => by
  obtain ⟨fs, h1, h2, h3, h4⟩ := hF (ρ k)
  exact va_get X.1.1 X.1.2.1 X.1.2.2.2.2 (fun w h => X.2.2.2.1 w (hin w h)) X.1.2.2.2.1 X.2.1 hP k ((gWl_get hk).trans (by rw [h1])) hc j hj (X.1.2.2.2.2 _ (X.2.2.2.1 _ hw)) (fun _ h9 => hsame ▸ h9) h2 hd (kk H locs la hP hD hS hl)
theorem g_getr (X : gX p m c cc nL s args Ts own D cy A) {ref C : String} {T : u_T} {N ci index : Nat} (k : Nat) (hk : k < n) (j : Nat) (hj : j < N) (hin : ∀ w ∈ u_ws C T N, w ∈ wAll) (hc : vwCl[ci]? = some (C, T, N)) (hw : Cond.fieldLink own index ref (T j).2.1 (T j).2.2.1 ∈ wAll) (hsame : (T j).1 = ref) {k2 : Nat} (hF : gFR cz ad k ci j k2) (hd : decode cc pc = .ok (.getfield index, 3)) (kk : GW p l e R s m args below meth c Q nL D A n ad cz ρ cells slots (pc + 3) ls (.ref (ad k2) :: st)) : GW p l e R s m args below meth c Q nL D A n ad cz ρ cells slots pc ls (.ref (ad k) :: st) := fun H locs la hP hD hS hl => by
  obtain ⟨fs, h1, h2⟩ := hF (ρ k)
  exact va_get X.1.1 X.1.2.1 X.1.2.2.2.2 (fun w h => X.2.2.2.1 w (hin w h)) X.1.2.2.2.1 X.2.1 hP k ((gWl_get hk).trans (by rw [h1])) hc j hj (X.1.2.2.2.2 _ (X.2.2.2.1 _ hw)) (fun _ h9 => hsame ▸ h9) h2 hd (kk H locs la hP hD hS hl)
theorem g_puti (X : gX p m c cc nL s args Ts own D cy A) {ref C : String} {T : u_T} {N ci index : Nat} (k : Nat) (hk : k < n) (j : Nat) (hj : j < N) (hin : ∀ w ∈ u_ws C T N, w ∈ wAll) (hc : vwCl[ci]? = some (C, T, N)) (hw : Cond.fieldLink own index ref (T j).2.1 (T j).2.2.1 ∈ wAll) (hsame : (T j).1 = ref) {v : Int32} (ty0 : Nat → FieldType) (hty : ∀ k, k < N → parseFieldDescriptor (T k).2.2.1 = some (ty0 k)) (hnm : ∀ a, a < N → ∀ b, b < N → a ≠ b → (T a).2.1 ≠ (T b).2.1) (hfin : (T j).2.2.2 = false) (hpd : parseFieldDescriptor (T j).2.2.1 = some .int) (hF : gFI cz k ci j) (hd : decode cc pc = .ok (.putfield index, 3)) (kk : ∀ ρ1, ρ1 = up2 ρ k j v → GW p l e R s m args below meth c Q nL D A n ad cz ρ1 cells slots (pc + 3) ls st) : GW p l e R s m args below meth c Q nL D A n ad cz ρ cells slots pc ls (.int v :: .ref (ad k) :: st) := fun H locs la hP hD hS hl => by
  obtain ⟨fs, h1, h2, h3, h4⟩ := hF (ρ k)
  refine va_put X.1.1 X.1.2.1 X.1.2.2.2.2 (fun w h => X.2.2.2.1 w (hin w h)) ty0 hty hnm X.1.2.2.2.1 X.2.1 hP hD hS k ((gWl_get hk).trans (by rw [h1])) hc j hj (X.1.2.2.2.2 _ (X.2.2.2.1 _ hw)) (fun _ h9 => hsame ▸ h9) hfin hpd rfl rfl h3 hd (fun H1 locs1 hP1 hD1 hS1 => ?_)
  rw [gWl_set hk (h4 v)] at hP1 hD1
  exact kk _ rfl H1 locs1 la hP1 hD1 hS1 hl
theorem g_getiN (X : gX p m c cc nL s args Ts own D cy A) {ref C host : String} {T : u_T} {N ci index : Nat} (k : Nat) (hk : k < n) (j : Nat) (hj : j < N) (hin : ∀ w ∈ u_ws C T N, w ∈ wAll) (hc : vwCl[ci]? = some (C, T, N)) (hw : Cond.fieldLinkNest own index ref (T j).2.1 (T j).2.2.1 host ∈ gNsw) (hsame : (T j).1 = ref) (hF : gFI cz k ci j) (hd : decode cc pc = .ok (.getfield index, 3)) (kk : GW p l e R s m args below meth c Q nL D A n ad cz ρ cells slots (pc + 3) ls (.int (ρ k j) :: st)) : GW p l e R s m args below meth c Q nL D A n ad cz ρ cells slots pc ls (.ref (ad k) :: st) := fun H locs la hP hD hS hl => by
  obtain ⟨fs, h1, h2, h3, h4⟩ := hF (ρ k)
  exact va_getN X.1.1 X.1.2.1 X.1.2.2.2.2 (fun w h => X.2.2.2.1 w (hin w h)) X.1.2.2.2.1 X.2.1 hP k ((gWl_get hk).trans (by rw [h1])) hc j hj (va_Nw.use rfl (X.2.2.2.2 _ hw)) (fun _ h9 => hsame ▸ h9) h2 hd (kk H locs la hP hD hS hl)
theorem g_getrN (X : gX p m c cc nL s args Ts own D cy A) {ref C host : String} {T : u_T} {N ci index : Nat} (k : Nat) (hk : k < n) (j : Nat) (hj : j < N) (hin : ∀ w ∈ u_ws C T N, w ∈ wAll) (hc : vwCl[ci]? = some (C, T, N)) (hw : Cond.fieldLinkNest own index ref (T j).2.1 (T j).2.2.1 host ∈ gNsw) (hsame : (T j).1 = ref) {k2 : Nat} (hF : gFR cz ad k ci j k2) (hd : decode cc pc = .ok (.getfield index, 3)) (kk : GW p l e R s m args below meth c Q nL D A n ad cz ρ cells slots (pc + 3) ls (.ref (ad k2) :: st)) : GW p l e R s m args below meth c Q nL D A n ad cz ρ cells slots pc ls (.ref (ad k) :: st) := fun H locs la hP hD hS hl => by
  obtain ⟨fs, h1, h2⟩ := hF (ρ k)
  exact va_getN X.1.1 X.1.2.1 X.1.2.2.2.2 (fun w h => X.2.2.2.1 w (hin w h)) X.1.2.2.2.1 X.2.1 hP k ((gWl_get hk).trans (by rw [h1])) hc j hj (va_Nw.use rfl (X.2.2.2.2 _ hw)) (fun _ h9 => hsame ▸ h9) h2 hd (kk H locs la hP hD hS hl)
theorem g_iald (X : gX p m c cc nL s args Ts own D cy A) {len : Nat} {i : Int32} (k : Nat) (hk : k < n) (hF : gAI cz (cy 0) k len) (hin : vp_in i len) (hd : decode cc pc = .ok (.iaload, 1)) (kk : GW p l e R s m args below meth c Q nL D A n ad cz ρ cells slots (pc + 1) ls (.int (ρ k i.toNatClampNeg) :: st)) : GW p l e R s m args below meth c Q nL D A n ad cz ρ cells slots pc ls (.int i :: .ref (ad k) :: st) := fun H locs la hP hD hS hl => va_iald X.1.1 X.1.2.1 X.2.1 hP k 0 ((gWl_get hk).trans (by rw [hF (ρ k)])) rfl hin hd (kk H locs la hP hD hS hl)
theorem g_zald (X : gX p m c cc nL s args Ts own D cy A) {len : Nat} {i : Int32} (k : Nat) (hk : k < n) (hF : gAI cz (cy 1) k len) (hin : vp_in i len) (hd : decode cc pc = .ok (.baload, 1)) (kk : GW p l e R s m args below meth c Q nL D A n ad cz ρ cells slots (pc + 1) ls (.int (ρ k i.toNatClampNeg) :: st)) : GW p l e R s m args below meth c Q nL D A n ad cz ρ cells slots pc ls (.int i :: .ref (ad k) :: st) := fun H locs la hP hD hS hl => va_zald X.1.1 X.1.2.1 X.2.1 hP k 1 ((gWl_get hk).trans (by rw [hF (ρ k)])) rfl hin hd (kk H locs la hP hD hS hl)
theorem g_iast (X : gX p m c cc nL s args Ts own D cy A) {len : Nat} {i x : Int32} (k : Nat) (hk : k < n) (hF : gAI cz (cy 0) k len) (hin : vp_in i len) (hd : decode cc pc = .ok (.iastore, 1)) (kk : ∀ ρ1, ρ1 = up2 ρ k i.toNatClampNeg x → GW p l e R s m args below meth c Q nL D A n ad cz ρ1 cells slots (pc + 1) ls st) : GW p l e R s m args below meth c Q nL D A n ad cz ρ cells slots pc ls (.int x :: .int i :: .ref (ad k) :: st) := fun H locs la hP hD hS hl => by
  refine va_iast X.1.1 X.1.2.1 X.2.1 hP hD hS k 0 ((gWl_get hk).trans (by rw [hF (ρ k)])) rfl hin hd (fun H1 locs1 hP1 hD1 hS1 => ?_)
  rw [gWl_set hk (hF _).symm] at hP1 hD1
  exact kk _ rfl H1 locs1 la hP1 hD1 hS1 hl
theorem g_zast (X : gX p m c cc nL s args Ts own D cy A) {len : Nat} {i x : Int32} (k : Nat) (hk : k < n) (hF : gAI cz (cy 1) k len) (hx : vp_nar .boolean x = x) (hin : vp_in i len) (hd : decode cc pc = .ok (.bastore, 1)) (kk : ∀ ρ1, ρ1 = up2 ρ k i.toNatClampNeg x → GW p l e R s m args below meth c Q nL D A n ad cz ρ1 cells slots (pc + 1) ls st) : GW p l e R s m args below meth c Q nL D A n ad cz ρ cells slots pc ls (.int x :: .int i :: .ref (ad k) :: st) := fun H locs la hP hD hS hl => by
  refine va_zast X.1.1 X.1.2.1 X.2.1 hP hD hS k 1 ((gWl_get hk).trans (by rw [hF (ρ k)])) rfl hin hd (fun H1 locs1 hP1 hD1 hS1 => ?_)
  rw [hx, gWl_set hk (hF _).symm] at hP1 hD1
  exact kk _ rfl H1 locs1 la hP1 hD1 hS1 hl
theorem g_aald (X : gX p m c cc nL s args Ts own D cy A) {len t0 : Nat} {C : String} {tgt : Nat → Nat} {i : Int32} (k : Nat) (hk : k < n) {cA : ClassId} (hF : gAR cz ad cA k len tgt) (ht : (gT cy)[t0]? = some (cA, .object C)) (hin : vp_in i len) (hd : decode cc pc = .ok (.aaload, 1)) (kk : GW p l e R s m args below meth c Q nL D A n ad cz ρ cells slots (pc + 1) ls (.ref (ad (tgt i.toNatClampNeg)) :: st)) : GW p l e R s m args below meth c Q nL D A n ad cz ρ cells slots pc ls (.int i :: .ref (ad k) :: st) := fun H locs la hP hD hS hl => by
  obtain ⟨f, h1, h2⟩ := hF (ρ k)
  refine va_aldq X.1.1 X.1.2.1 X.2.1 hP k t0 ((gWl_get hk).trans (by rw [h1])) ht hin hd ?_
  rw [h2 _ (Nat.not_le.mp fun q => hin (Or.inr q))]
  exact kk H locs la hP hD hS hl
theorem g_lald (X : gX p m c cc nL s args Ts own D cy A) {len : Nat} {i : Int32} (k : Nat) (hk : k < n) (hF : gAL cz (cy 4) k len) (hin : vp_in i len) (hd : decode cc pc = .ok (.laload, 1)) (kk : GW p l e R s m args below meth c Q nL D A n ad cz ρ cells slots (pc + 1) ls (.long (ρ k i.toNatClampNeg).toInt64 :: st)) : GW p l e R s m args below meth c Q nL D A n ad cz ρ cells slots pc ls (.int i :: .ref (ad k) :: st) := fun H locs la hP hD hS hl => va_lald X.1.1 X.1.2.1 X.2.1 hP k 4 ((gWl_get hk).trans (by rw [hF (ρ k)])) rfl hin hd (kk H locs la hP hD hS hl)
theorem g_last (X : gX p m c cc nL s args Ts own D cy A) {len : Nat} {i x : Int32} (k : Nat) (hk : k < n) (hF : gAL cz (cy 4) k len) (hin : vp_in i len) (hd : decode cc pc = .ok (.lastore, 1)) (kk : ∀ ρ1, ρ1 = up2 ρ k i.toNatClampNeg x → GW p l e R s m args below meth c Q nL D A n ad cz ρ1 cells slots (pc + 1) ls st) : GW p l e R s m args below meth c Q nL D A n ad cz ρ cells slots pc ls (.long x.toInt64 :: .int i :: .ref (ad k) :: st) := fun H locs la hP hD hS hl => by
  refine va_last X.1.1 X.1.2.1 X.2.1 hP hD hS k 4 ((gWl_get hk).trans (by rw [hF (ρ k)])) rfl hin hd (fun H1 locs1 hP1 hD1 hS1 => ?_)
  have e9 : (.inl (cy 4, len, .inr (.inl (vp_updL (fun j => (ρ k j).toInt64) i.toNatClampNeg x.toInt64))) : va_E) = cz k (upd (ρ k) i.toNatClampNeg x) := by
    rw [hF (upd (ρ k) i.toNatClampNeg x)]
    have e8 : vp_updL (fun j => (ρ k j).toInt64) i.toNatClampNeg x.toInt64 = fun j => (upd (ρ k) i.toNatClampNeg x j).toInt64 := by
      funext q
      simp only [vp_updL, upd]
      split <;> rfl
    rw [e8]
  rw [gWl_set hk e9] at hP1 hD1
  exact kk _ rfl H1 locs1 la hP1 hD1 hS1 hl
theorem g_widen {k9 n9 : Nat} (h1 : cells ≤ k9) (h2 : slots ≤ n9) (kk : GW p l e R s m args below meth c Q nL D A n ad cz ρ k9 n9 pc ls st) : GW p l e R s m args below meth c Q nL D A n ad cz ρ cells slots pc ls st := fun H locs la hP hD hS hl => W.widen h1 h2 (kk H locs la hP hD hS hl)
theorem g_ls (ks : List Nat) (h : lv_pick ls ks = ls') (kk : GW p l e R s m args below meth c Q nL D A n ad cz ρ cells slots pc ls' st) : GW p l e R s m args below meth c Q nL D A n ad cz ρ cells slots pc ls st := fun H locs la hP hD hS hl => kk H locs la hP hD hS (lv_sub hl ks h)
theorem g_congr {ρ1 : Nat → Nat → Int32} (h : ∀ k, k < n → cz k (ρ k) = cz k (ρ1 k)) (kk : GW p l e R s m args below meth c Q nL D A n ad cz ρ1 cells slots pc ls st) : GW p l e R s m args below meth c Q nL D A n ad cz ρ cells slots pc ls st := fun H locs la hP hD hS hl => kk H locs la (gP_congr h hP) (gD_of (gD_inj hD) (fun _ hk => gD_in hD hk)) hS hl
theorem g_topi {x : Int32} (kk : ∀ y : Int32, y = x → GW p l e R s m args below meth c Q nL D A n ad cz ρ cells slots pc ls (.int y :: st)) : GW p l e R s m args below meth c Q nL D A n ad cz ρ cells slots pc ls (.int x :: st) := kk x rfl
theorem g_mmin (X : gX p m c cc nL s args Ts own D cy A) {x y : Int32} {index : Nat} (hw1 : Cond.methodLink own index Lib.Math.min.name ∈ wAll) (hw2 : Cond.static Lib.Math.min.name ∈ wAll) (hw3 : Cond.initialized "java/lang/Math" ∈ wAll) (hw4 : Cond.code Lib.Math.min.name Lib.Math.min.code 2 (some .int) ∈ wAll) (hr : 1 ≤ R.frames ∧ (st.map fun v => v.category).sum + 13 ≤ R.locals ∧ cells ≤ R.cells ∧ slots ≤ R.slots) (hd : decode cc pc = .ok (.invokestatic index, 3)) (kk : GW p l e R s m args below meth c Q nL D A n ad cz ρ cells slots (pc + 3) ls (.int (if y < x then y else x) :: st)) : GW p l e R s m args below meth c Q nL D A n ad cz ρ cells slots pc ls (.int y :: .int x :: st) := fun H locs la hP hD hS hl => va_mmin X.1.1 X.1.2.1 (X.1.2.2.1.trans hl.1.symm) X.1.2.2.2.1 (X.1.2.2.2.2 _ (X.2.2.2.1 _ hw1)) (X.1.2.2.2.2 _ (X.2.2.2.1 _ hw2)) (X.1.2.2.2.2 _ (X.2.2.2.1 _ hw3)) (X.1.2.2.2.2 _ (X.2.2.2.1 _ hw4)) hr.1 hr.2.1 hr.2.2.1 hr.2.2.2 hd (kk H locs la hP hD hS hl)
theorem g_mmax (X : gX p m c cc nL s args Ts own D cy A) {x y : Int32} {index : Nat} (hw1 : Cond.methodLink own index Lib.Math.max.name ∈ wAll) (hw2 : Cond.static Lib.Math.max.name ∈ wAll) (hw3 : Cond.initialized "java/lang/Math" ∈ wAll) (hw4 : Cond.code Lib.Math.max.name Lib.Math.max.code 2 (some .int) ∈ wAll) (hr : 1 ≤ R.frames ∧ (st.map fun v => v.category).sum + 13 ≤ R.locals ∧ cells ≤ R.cells ∧ slots ≤ R.slots) (hd : decode cc pc = .ok (.invokestatic index, 3)) (kk : GW p l e R s m args below meth c Q nL D A n ad cz ρ cells slots (pc + 3) ls (.int (if x < y then y else x) :: st)) : GW p l e R s m args below meth c Q nL D A n ad cz ρ cells slots pc ls (.int y :: .int x :: st) := fun H locs la hP hD hS hl => va_mmax X.1.1 X.1.2.1 (X.1.2.2.1.trans hl.1.symm) X.1.2.2.2.1 (X.1.2.2.2.2 _ (X.2.2.2.1 _ hw1)) (X.1.2.2.2.2 _ (X.2.2.2.1 _ hw2)) (X.1.2.2.2.2 _ (X.2.2.2.1 _ hw3)) (X.1.2.2.2.2 _ (X.2.2.2.1 _ hw4)) hr.1 hr.2.1 hr.2.2.1 hr.2.2.2 hd (kk H locs la hP hD hS hl)
theorem g_mabs (X : gX p m c cc nL s args Ts own D cy A) {x : Int32} {index : Nat} (hw1 : Cond.methodLink own index Lib.Math.abs.name ∈ wAll) (hw2 : Cond.static Lib.Math.abs.name ∈ wAll) (hw3 : Cond.initialized "java/lang/Math" ∈ wAll) (hw4 : Cond.code Lib.Math.abs.name Lib.Math.abs.code 1 (some .int) ∈ wAll) (hr : 1 ≤ R.frames ∧ (st.map fun v => v.category).sum + 13 ≤ R.locals ∧ cells ≤ R.cells ∧ slots ≤ R.slots) (hd : decode cc pc = .ok (.invokestatic index, 3)) (kk : GW p l e R s m args below meth c Q nL D A n ad cz ρ cells slots (pc + 3) ls (.int (if 0 ≤ x then x else 0 - x) :: st)) : GW p l e R s m args below meth c Q nL D A n ad cz ρ cells slots pc ls (.int x :: st) := fun H locs la hP hD hS hl => va_mabs X.1.1 X.1.2.1 (X.1.2.2.1.trans hl.1.symm) X.1.2.2.2.1 (X.1.2.2.2.2 _ (X.2.2.2.1 _ hw1)) (X.1.2.2.2.2 _ (X.2.2.2.1 _ hw2)) (X.1.2.2.2.2 _ (X.2.2.2.1 _ hw3)) (X.1.2.2.2.2 _ (X.2.2.2.1 _ hw4)) hr.1 hr.2.1 hr.2.2.1 hr.2.2.2 hd (kk H locs la hP hD hS hl)
end GWS
end
section
/-! Contracts over a world by numbers -/
/-- a link to a method, with all that a call of it asks of the tables -/
def gLkV (own : String) (index : Nat) (C : String) (y : MethodName) (b : ByteArray) (nL : Nat) (ret : Option FieldType) (nA : Nat) : Prop := Cond.methodLink own index y ∈ wAll ∧ Cond.instanceMethod y ∈ wAll ∧ Cond.selects C y y ∈ wAll ∧ Cond.initialized C ∈ wAll ∧ Cond.code y b nL ret ∈ wAll ∧ y.cls = C ∧ y.cls ≠ "java/lang/invoke/MethodHandle" ∧ y.cls ≠ "java/lang/invoke/VarHandle" ∧ (parseMethodDescriptor y.desc).map (fun d => d.parameters.length) = some nA
def gLkS (own : String) (index : Nat) (y : MethodName) (b : ByteArray) (nL : Nat) (ret : Option FieldType) (nA : Nat) : Prop := Cond.methodLink own index y ∈ wAll ∧ Cond.static y ∈ wAll ∧ Cond.initialized y.cls ∈ wAll ∧ Cond.code y b nL ret ∈ wAll ∧ y.cls ≠ "java/lang/invoke/MethodHandle" ∧ y.cls ≠ "java/lang/invoke/VarHandle" ∧ (parseMethodDescriptor y.desc).map (fun d => d.parameters.length) = some nA
theorem gGood {Ts : List Cond} {y : MethodName} {b : ByteArray} {nL : Nat} {ret : Option FieldType} (hT : ∀ w ∈ wAll, w ∈ Ts) (hc : Cond.code y b nL ret ∈ wAll) : GoodIn Ts (Cond.code y b nL ret :: wAll) := fun w hw => by
  rcases List.mem_cons.mp hw with rfl | h
  · exact ⟨hT _ hc, good_of_word (wAll_good _ hc)⟩
  · exact ⟨hT _ h, good_of_word (wAll_good _ h)⟩
theorem gCwV {R : Room} {s : State} {args : Array Value} {own C : String} {index maxL mc ms n : Nat} {y : MethodName} {bytes : ByteArray} {ret : Option FieldType} {Ts : List Cond} {rm : Room} (ht : ∀ w ∈ Ts, w.before args s = true) (hT : ∀ w ∈ wAll, w ∈ Ts) (h : gLkV own index C y bytes maxL ret n) (hR : rm.cells = mc ∧ rm.slots = ms ∧ rm.frames + 1 ≤ R.frames ∧ 8 + (maxL + 11) + rm.locals ≤ R.locals) : CallW R s args own C index y bytes maxL ret (Cond.code y bytes maxL ret :: wAll) rm mc ms n := by
  obtain ⟨h1, h2, h3, h4, h5, h6⟩ := h
  refine cwV n ht (fun w hw => ?_) rfl hR.1 hR.2.1 h6 hR.2.2
  rcases List.mem_append.mp hw with hw | hw
  · have hm : w ∈ wAll := by
      simp only [List.mem_cons, List.not_mem_nil, or_false] at hw
      rcases hw with rfl | rfl | rfl | rfl
      · exact h1
      · exact h2
      · exact h3
      · exact h4
    exact ⟨hT _ hm, good_of_word (wAll_good _ hm)⟩
  · exact gGood hT h5 w hw
theorem gCwS {R : Room} {s : State} {args : Array Value} {own : String} {index maxL mc ms n : Nat} {y : MethodName} {bytes : ByteArray} {ret : Option FieldType} {Ts : List Cond} {rm : Room} (ht : ∀ w ∈ Ts, w.before args s = true) (hT : ∀ w ∈ wAll, w ∈ Ts) (h : gLkS own index y bytes maxL ret n) (hR : rm.cells = mc ∧ rm.slots = ms ∧ rm.frames + 1 ≤ R.frames ∧ 8 + (maxL + 11) + rm.locals ≤ R.locals) : CallB R s args own index y bytes maxL ret (Cond.code y bytes maxL ret :: wAll) rm mc ms n ∧ (Cond.static y).before args s = true := by
  obtain ⟨h1, h3, h4, h5, h6⟩ := h
  exact ⟨callB_of n ht (gGood hT h5) rfl hR.1 hR.2.1 (ht _ (hT _ h4)) (ht _ (hT _ h1)) h6 hR.2.2, ht _ (hT _ h3)⟩
theorem gCwN {R : Room} {s : State} {args : Array Value} {own host : String} {index maxL mc ms n : Nat} {y : MethodName} {bytes : ByteArray} {ret : Option FieldType} {Ts : List Cond} {rm : Room} (ht : ∀ w ∈ Ts, w.before args s = true) (hT : ∀ w ∈ wAll, w ∈ Ts) (hN : gNst s) (hl : Cond.methodLinkNest own index y host ∈ gNsw) (h4 : Cond.initialized y.cls ∈ wAll) (h5 : Cond.code y bytes maxL ret ∈ wAll) (h6 : y.cls ≠ "java/lang/invoke/MethodHandle" ∧ y.cls ≠ "java/lang/invoke/VarHandle" ∧ (parseMethodDescriptor y.desc).map (fun d => d.parameters.length) = some n) (hR : rm.cells = mc ∧ rm.slots = ms ∧ rm.frames + 1 ≤ R.frames ∧ 8 + (maxL + 11) + rm.locals ≤ R.locals) : va_CN R s args own index y host bytes maxL ret (Cond.code y bytes maxL ret :: wAll) rm mc ms n := va_cnB n ht (gGood hT h5) rfl hR.1 hR.2.1 (hN _ hl) (ht _ (hT _ h4)) h6 hR.2.2
def gPc (D : va_G) (cy : Nat → ClassId) (n : Nat) (ad : Nat → Nat) (cz : Nat → (Nat → Int32) → va_E) (ρ : Nat → Nat → Int32) (argv : List Value) (sz : Nat) : Array Value → State → Prop := va_Pc argv (fun U => U.heap.size = sz ∧ va_P D vwCl (gWl n ad cz ρ) U.heap ∧ va_K D vwCl (gT cy) U ∧ gInj n ad ∧ gNst U)
/-- the strings that the class throws with -/
def gStr : List (String × Nat × String) := [("StreetOrgans", 46, "there are 6 tunes"), ("StreetOrgans", 61, "the tune has 16 notes"), ("StreetOrgans", 69, "no such place"), ("StreetOrgans", 77, "listeners is not 0 to 90"), ("StreetOrgans", 86, "there are 8 streets"), ("StreetOrgans", 97, "weekday is not 0 to 6"), ("StreetOrgans", 99, "damp is not 0 to 5"), ("StreetOrgans", 101, "the tune has no notes"), ("StreetOrgans", 131, "by is not -120 to 120"), ("StreetOrgans", 140, "there are less than 4 coins"), ("StreetOrgans", 151, "what is not 0 to 4"), ("StreetOrgans", 161, "what is not 0 to 8"), ("StreetOrgans", 179, "what is not 5 to 7"), ("StreetOrgans", 200, "no such tune"), ("StreetOrgans", 202, "no such street"), ("StreetOrgans", 204, "pipe is not 0 to 11"), ("StreetOrgans", 206, "permits is not a set of weekdays"), ("StreetOrgans", 208, "nights is not 1 to 60")]
/-- the words of a throw that aren't kept of themselves -/
def gEnv (U : State) (A : Nat → Prop) : Prop := vx_Zq Bundle.tN "UNASSIGNED_STACK" Bundle.steD A U U.heap ∧ vx_Zq Bundle.tN "SUPPRESSED_SENTINEL" Bundle.listD A U U.heap ∧ ∀ q ∈ gStr, ∃ a, vk_R q.1 q.2.1 q.2.2 a U
def gPx (D : va_G) (cy : Nat → ClassId) (n : Nat) (ad : Nat → Nat) (cz : Nat → (Nat → Int32) → va_E) (ρ : Nat → Nat → Int32) (argv : List Value) (sz : Nat) : Array Value → State → Prop := va_Pc argv (fun U => U.heap.size = sz ∧ va_P D vwCl (gWl n ad cz ρ) U.heap ∧ va_K D vwCl (gT cy) U ∧ gInj n ad ∧ gNst U ∧ gEnv U (gA n ad sz))
theorem gPc_blind {D : va_G} {cy : Nat → ClassId} {n : Nat} {ad : Nat → Nat} {cz : Nat → (Nat → Int32) → va_E} {ρ : Nat → Nat → Int32} {argv : List Value} {sz : Nat} : FrameBlind (gPc D cy n ad cz ρ argv sz) := fun a U g mk q => by
  obtain ⟨q0, q1, q2, q3, q4, q6⟩ := q
  exact ⟨q0, q1, q2, va_K.moved (u := U) (U := U.calling g mk a) (Vm.Alike.refl U.vm) q3, q4, gNst_same (u := U) (U := U.calling g mk a) rfl q6⟩
theorem gEnv_same {U V : State} {A : Nat → Prop} (hv : V.vm = U.vm) (hh : V.heap = U.heap) (h : gEnv U A) : gEnv V A := by
  obtain ⟨h1, h2, h3⟩ := h
  have hA : U.vm.Alike V.vm := by rw [hv]; exact Vm.Alike.refl U.vm
  refine ⟨by rw [hh]; exact vx_Zq.moved hA h1, by rw [hh]; exact vx_Zq.moved hA h2, fun q hq => ?_⟩
  obtain ⟨a, ha⟩ := h3 q hq
  exact ⟨a, vk_R.same hv ha⟩
theorem gPx_blind {D : va_G} {cy : Nat → ClassId} {n : Nat} {ad : Nat → Nat} {cz : Nat → (Nat → Int32) → va_E} {ρ : Nat → Nat → Int32} {argv : List Value} {sz : Nat} : FrameBlind (gPx D cy n ad cz ρ argv sz) := fun a U g mk q => by
  obtain ⟨q0, q1, q2, q3, q4, q6, q5⟩ := q
  exact ⟨q0, q1, q2, va_K.moved (u := U) (U := U.calling g mk a) (Vm.Alike.refl U.vm) q3, q4, gNst_same (u := U) (U := U.calling g mk a) rfl q6, gEnv_same (U := U) (V := U.calling g mk a) rfl rfl q5⟩
/-- the environment at a call -/
theorem gEnv_at {s U : State} {A B : Nat → Prop} {H : Heap} {locs : List Loc} (h : gEnv s A) (hW : s.WarmedH U.vm) (hU : U.heap = H) (hS : va_S A s.heap H locs) (hAB : ∀ q, B q → A q) : gEnv U B := by
  obtain ⟨h1, h2, h3⟩ := h
  refine ⟨?_, ?_, fun q hq => ?_⟩
  · rw [hU]; exact ((vx_Zq.moved hW.alike h1).kept hS.2.1).narrow hAB
  · rw [hU]; exact ((vx_Zq.moved hW.alike h2).kept hS.2.1).narrow hAB
  · obtain ⟨a, ha⟩ := h3 q hq
    exact ⟨a, vk_R.warm hW ha⟩
theorem gA_sub {n off n' : Nat} {ad ad' : Nat → Nat} {cz cz' : Nat → (Nat → Int32) → va_E} {ρ : Nat → Nat → Int32} {A : Nat → Prop} {H0 H : Heap} {locs : List Loc} (hs : gSub n ad cz off n' ad' cz') (hD : va_D A (gWl n ad cz ρ)) (hS : va_S A H0 H locs) (hA : ∀ q, H0.size ≤ q → A q) : ∀ q, gA n' ad' H.size q → A q := by
  rintro q (⟨j, hj, rfl⟩ | h)
  · rw [(hs.2 j hj).1]
    exact gD_in hD (by have := hs.1; omega)
  · exact hA q (Nat.le_trans hS.1 h)
abbrev gB (D : va_G) (n : Nat) (ad : Nat → Nat) (cz : Nat → (Nat → Int32) → va_E) : (Nat → Nat → Int32) → State → Prop := fun ρ1 t => va_P D vwCl (gWl n ad cz ρ1) t.heap
abbrev gXC (D : va_G) (n : Nat) (ad : Nat → Nat) (cz : Nat → (Nat → Int32) → va_E) (ρ : Nat → Nat → Int32) (xp : String → Prop) (A : Nat → Prop) : String → State → State → Prop := vx_X (fun _ : Unit => True) (fun E _ t => xp E ∧ va_P D vwCl (gWl n ad cz ρ) t.heap) A
def gMI (l : Launch) (y : MethodName) (b : ByteArray) (nL : Nat) (ret : Option FieldType) (rm : Room) (D : va_G) (cy : Nat → ClassId) (n : Nat) (ad : Nat → Nat) (cz : Nat → (Nat → Int32) → va_E) (argv : List Value) (ρ : Nat → Nat → Int32) (post : Int32 → (Nat → Nat → Int32) → Prop) (mc ms : Nat) : Prop := ∀ sz : Nat, Met l y (Cond.code y b nL ret :: wAll) rm (gPc D cy n ad cz ρ argv sz) (va_Qi post (gB D n ad cz) (gA n ad sz)) mc ms (gA n ad sz)
def gMV (l : Launch) (y : MethodName) (b : ByteArray) (nL : Nat) (ret : Option FieldType) (rm : Room) (D : va_G) (cy : Nat → ClassId) (n : Nat) (ad : Nat → Nat) (cz : Nat → (Nat → Int32) → va_E) (argv : List Value) (ρ : Nat → Nat → Int32) (post : (Nat → Nat → Int32) → Prop) (mc ms : Nat) : Prop := ∀ sz : Nat, Met l y (Cond.code y b nL ret :: wAll) rm (gPc D cy n ad cz ρ argv sz) (va_Qv post (gB D n ad cz) (gA n ad sz)) mc ms (gA n ad sz)
def gML (l : Launch) (y : MethodName) (b : ByteArray) (nL : Nat) (ret : Option FieldType) (rm : Room) (D : va_G) (cy : Nat → ClassId) (n : Nat) (ad : Nat → Nat) (cz : Nat → (Nat → Int32) → va_E) (argv : List Value) (ρ : Nat → Nat → Int32) (post : Int64 → (Nat → Nat → Int32) → Prop) (mc ms : Nat) : Prop := ∀ sz : Nat, Met l y (Cond.code y b nL ret :: wAll) rm (gPc D cy n ad cz ρ argv sz) (va_Ql post (gB D n ad cz) (gA n ad sz)) mc ms (gA n ad sz)
def gMD (l : Launch) (y : MethodName) (b : ByteArray) (nL : Nat) (ret : Option FieldType) (rm : Room) (D : va_G) (cy : Nat → ClassId) (n : Nat) (ad : Nat → Nat) (cz : Nat → (Nat → Int32) → va_E) (argv : List Value) (ρ : Nat → Nat → Int32) (post : UInt64 → (Nat → Nat → Int32) → Prop) (mc ms : Nat) : Prop := ∀ sz : Nat, Met l y (Cond.code y b nL ret :: wAll) rm (gPc D cy n ad cz ρ argv sz) (va_Qd post (gB D n ad cz) (gA n ad sz)) mc ms (gA n ad sz)
def gXI (l : Launch) (y : MethodName) (b : ByteArray) (nL : Nat) (ret : Option FieldType) (rm : Room) (D : va_G) (cy : Nat → ClassId) (n : Nat) (ad : Nat → Nat) (cz : Nat → (Nat → Int32) → va_E) (argv : List Value) (ρ : Nat → Nat → Int32) (post : Int32 → (Nat → Nat → Int32) → Prop) (xp : String → Prop) (mc ms : Nat) : Prop := ∀ sz : Nat, vx_Met l y (Cond.code y b nL ret :: wAll) rm (gPx D cy n ad cz ρ argv sz) (va_Qi post (gB D n ad cz) (gA n ad sz)) (gXC D n ad cz ρ xp (gA n ad sz)) mc ms (gA n ad sz)
def gXV (l : Launch) (y : MethodName) (b : ByteArray) (nL : Nat) (ret : Option FieldType) (rm : Room) (D : va_G) (cy : Nat → ClassId) (n : Nat) (ad : Nat → Nat) (cz : Nat → (Nat → Int32) → va_E) (argv : List Value) (ρ : Nat → Nat → Int32) (post : (Nat → Nat → Int32) → Prop) (xp : String → Prop) (mc ms : Nat) : Prop := ∀ sz : Nat, vx_Met l y (Cond.code y b nL ret :: wAll) rm (gPx D cy n ad cz ρ argv sz) (va_Qv post (gB D n ad cz) (gA n ad sz)) (gXC D n ad cz ρ xp (gA n ad sz)) mc ms (gA n ad sz)
section GMS
variable {p : Program} {l : Launch} {e : Env} {R : Room} {s : State} {m : MethodId} {args : Array Value} {below : List Frame} {meth : Method} {c : Code} {Q : State → Prop}
variable {cc : ByteArray} {nL : Nat} {Ts : List Cond} {own : String} {D : va_G} {cy : Nat → ClassId} {A : Nat → Prop}
variable {n : Nat} {ad : Nat → Nat} {cz : Nat → (Nat → Int32) → va_E} {ρ : Nat → Nat → Int32} {cells slots pc : Nat} {ls ls' : List (Nat × Value)} {st st0 rest : List Value}
variable {y : MethodName} {ws ws' : List Cond} {rm : Room} {bytes : ByteArray} {maxL nA index mc ms : Nat} {ret : Option FieldType} {C : String} {T : u_T} {N ci : Nat} {As : List Value}
variable {n' : Nat} {ad' : Nat → Nat} {cz' : Nat → (Nat → Int32) → va_E}
theorem gBack_all {ρ ρ1 : Nat → Nat → Int32} {k : Nat} (h : k < n) : gBack ρ 0 n ρ1 k = ρ1 k := by
  simp only [gBack]
  rw [if_pos ⟨Nat.zero_le _, by omega⟩, Nat.sub_zero]
theorem gOff0 (ρ : Nat → Nat → Int32) : (fun j => ρ (0 + j)) = ρ := by funext j; rw [Nat.zero_add]
theorem g_mcallVi_at (X : gX p m c cc nL s args Ts own D cy A) {post : Int32 → (Nat → Nat → Int32) → Prop} (k0 : Nat) (off : Nat) (hM : gMI l y bytes maxL ret rm D cy n' ad' cz' (.ref (ad k0) :: As) (fun j => ρ (off + j)) post mc ms) (hL : gLkV own index C y bytes maxL ret nA) (hR : rm.cells = mc ∧ rm.slots = ms ∧ rm.frames + 1 ≤ R.frames ∧ 8 + (maxL + 11) + rm.locals ≤ R.locals) (hs : gSub n ad cz off n' ad' cz') (hk0 : k0 < n) (hO : gOb cz k0 ci) (hc : vwCl[ci]? = some (C, T, N)) (hn : As.length = nA) (hst : st0 = As.reverse ++ .ref (ad k0) :: rest) (hcat : (rest.map fun v => v.category).sum ≤ 8) (hd : decode cc pc = .ok (.invokevirtual index, 3)) (hroom : cells + mc ≤ R.cells ∧ slots + ms ≤ R.slots) (kk : ∀ (r : Int32) (ρ1 : Nat → Nat → Int32), post r ρ1 → GW p l e R s m args below meth c Q nL D A n ad cz (gBack ρ off n' ρ1) (cells + mc) (slots + ms) (pc + 3) ls (.int r :: rest)) : GW p l e R s m args below meth c Q nL D A n ad cz ρ cells slots pc ls st0 := by
  intro H locs la hP hD hS hl
  have hfree := gA_sub hs hD hS X.2.2.1
  obtain ⟨fs9, hfs9⟩ := hO (ρ k0)
  exact va_calli (va_runV X.1 (hM H.size) (gCwV X.1.2.2.2.2 X.2.2.2.1 hL hR) ⟨gPc_blind, va_recv X.2.1 hP hc ((gWl_get hk0).trans (by rw [hfs9])), fun U hU hW => ⟨rfl, by rw [hU], by rw [hU]; exact gP_sub hs hP, va_K.moved hW.alike X.2.1, gInj_sub hs (gD_inj hD), gNst_warm hW X.2.2.2.2⟩⟩ rfl hn hl.1 hst (lv_room hcat) hd hroom) hS (fun q _ h => hfree q h) hfree (fun r ρ1 t H1 locs1 ht hvm hw hB hz1 hk1 hS1 => kk r ρ1 hw H1 locs1 la (gP_back hs (gD_inj hD) hP hk1 (ht ▸ hB)) (gD_of (gD_inj hD) (fun _ hk => gD_in hD hk)) hS1 hl)
theorem g_mcallVi (X : gX p m c cc nL s args Ts own D cy A) {post : Int32 → (Nat → Nat → Int32) → Prop} (k0 : Nat) (hM : gMI l y bytes maxL ret rm D cy n ad cz (.ref (ad k0) :: As) ρ post mc ms) (hL : gLkV own index C y bytes maxL ret nA) (hR : rm.cells = mc ∧ rm.slots = ms ∧ rm.frames + 1 ≤ R.frames ∧ 8 + (maxL + 11) + rm.locals ≤ R.locals) (hk0 : k0 < n) (hO : gOb cz k0 ci) (hc : vwCl[ci]? = some (C, T, N)) (hn : As.length = nA) (hst : st0 = As.reverse ++ .ref (ad k0) :: rest) (hcat : (rest.map fun v => v.category).sum ≤ 8) (hd : decode cc pc = .ok (.invokevirtual index, 3)) (hroom : cells + mc ≤ R.cells ∧ slots + ms ≤ R.slots) (kk : ∀ (r : Int32) (ρ1 : Nat → Nat → Int32), post r ρ1 → GW p l e R s m args below meth c Q nL D A n ad cz ρ1 (cells + mc) (slots + ms) (pc + 3) ls (.int r :: rest)) : GW p l e R s m args below meth c Q nL D A n ad cz ρ cells slots pc ls st0 := g_mcallVi_at X k0 0 (by rw [gOff0]; exact hM) hL hR gSub_self hk0 hO hc hn hst hcat hd hroom (fun r ρ1 hw => g_congr (fun k hk => by rw [gBack_all hk]) (kk r ρ1 hw))
theorem g_mcallVv_at (X : gX p m c cc nL s args Ts own D cy A) {post : (Nat → Nat → Int32) → Prop} (k0 : Nat) (off : Nat) (hM : gMV l y bytes maxL ret rm D cy n' ad' cz' (.ref (ad k0) :: As) (fun j => ρ (off + j)) post mc ms) (hL : gLkV own index C y bytes maxL ret nA) (hR : rm.cells = mc ∧ rm.slots = ms ∧ rm.frames + 1 ≤ R.frames ∧ 8 + (maxL + 11) + rm.locals ≤ R.locals) (hs : gSub n ad cz off n' ad' cz') (hk0 : k0 < n) (hO : gOb cz k0 ci) (hc : vwCl[ci]? = some (C, T, N)) (hn : As.length = nA) (hst : st0 = As.reverse ++ .ref (ad k0) :: rest) (hcat : (rest.map fun v => v.category).sum ≤ 8) (hd : decode cc pc = .ok (.invokevirtual index, 3)) (hroom : cells + mc ≤ R.cells ∧ slots + ms ≤ R.slots) (kk : ∀ (ρ1 : Nat → Nat → Int32), post ρ1 → GW p l e R s m args below meth c Q nL D A n ad cz (gBack ρ off n' ρ1) (cells + mc) (slots + ms) (pc + 3) ls rest) : GW p l e R s m args below meth c Q nL D A n ad cz ρ cells slots pc ls st0 := by
  intro H locs la hP hD hS hl
  have hfree := gA_sub hs hD hS X.2.2.1
  obtain ⟨fs9, hfs9⟩ := hO (ρ k0)
  exact va_callv (va_runV X.1 (hM H.size) (gCwV X.1.2.2.2.2 X.2.2.2.1 hL hR) ⟨gPc_blind, va_recv X.2.1 hP hc ((gWl_get hk0).trans (by rw [hfs9])), fun U hU hW => ⟨rfl, by rw [hU], by rw [hU]; exact gP_sub hs hP, va_K.moved hW.alike X.2.1, gInj_sub hs (gD_inj hD), gNst_warm hW X.2.2.2.2⟩⟩ rfl hn hl.1 hst (lv_room hcat) hd hroom) hS (fun q _ h => hfree q h) hfree (fun ρ1 t H1 locs1 ht hvm hw hB hz1 hk1 hS1 => kk ρ1 hw H1 locs1 la (gP_back hs (gD_inj hD) hP hk1 (ht ▸ hB)) (gD_of (gD_inj hD) (fun _ hk => gD_in hD hk)) hS1 hl)
theorem g_mcallVv (X : gX p m c cc nL s args Ts own D cy A) {post : (Nat → Nat → Int32) → Prop} (k0 : Nat) (hM : gMV l y bytes maxL ret rm D cy n ad cz (.ref (ad k0) :: As) ρ post mc ms) (hL : gLkV own index C y bytes maxL ret nA) (hR : rm.cells = mc ∧ rm.slots = ms ∧ rm.frames + 1 ≤ R.frames ∧ 8 + (maxL + 11) + rm.locals ≤ R.locals) (hk0 : k0 < n) (hO : gOb cz k0 ci) (hc : vwCl[ci]? = some (C, T, N)) (hn : As.length = nA) (hst : st0 = As.reverse ++ .ref (ad k0) :: rest) (hcat : (rest.map fun v => v.category).sum ≤ 8) (hd : decode cc pc = .ok (.invokevirtual index, 3)) (hroom : cells + mc ≤ R.cells ∧ slots + ms ≤ R.slots) (kk : ∀ (ρ1 : Nat → Nat → Int32), post ρ1 → GW p l e R s m args below meth c Q nL D A n ad cz ρ1 (cells + mc) (slots + ms) (pc + 3) ls rest) : GW p l e R s m args below meth c Q nL D A n ad cz ρ cells slots pc ls st0 := g_mcallVv_at X k0 0 (by rw [gOff0]; exact hM) hL hR gSub_self hk0 hO hc hn hst hcat hd hroom (fun ρ1 hw => g_congr (fun k hk => by rw [gBack_all hk]) (kk ρ1 hw))
theorem g_mcallVl_at (X : gX p m c cc nL s args Ts own D cy A) {post : Int64 → (Nat → Nat → Int32) → Prop} (k0 : Nat) (off : Nat) (hM : gML l y bytes maxL ret rm D cy n' ad' cz' (.ref (ad k0) :: As) (fun j => ρ (off + j)) post mc ms) (hL : gLkV own index C y bytes maxL ret nA) (hR : rm.cells = mc ∧ rm.slots = ms ∧ rm.frames + 1 ≤ R.frames ∧ 8 + (maxL + 11) + rm.locals ≤ R.locals) (hs : gSub n ad cz off n' ad' cz') (hk0 : k0 < n) (hO : gOb cz k0 ci) (hc : vwCl[ci]? = some (C, T, N)) (hn : As.length = nA) (hst : st0 = As.reverse ++ .ref (ad k0) :: rest) (hcat : (rest.map fun v => v.category).sum ≤ 8) (hd : decode cc pc = .ok (.invokevirtual index, 3)) (hroom : cells + mc ≤ R.cells ∧ slots + ms ≤ R.slots) (kk : ∀ (r : Int64) (ρ1 : Nat → Nat → Int32), post r ρ1 → GW p l e R s m args below meth c Q nL D A n ad cz (gBack ρ off n' ρ1) (cells + mc) (slots + ms) (pc + 3) ls (.long r :: rest)) : GW p l e R s m args below meth c Q nL D A n ad cz ρ cells slots pc ls st0 := by
  intro H locs la hP hD hS hl
  have hfree := gA_sub hs hD hS X.2.2.1
  obtain ⟨fs9, hfs9⟩ := hO (ρ k0)
  exact va_calll (va_runV X.1 (hM H.size) (gCwV X.1.2.2.2.2 X.2.2.2.1 hL hR) ⟨gPc_blind, va_recv X.2.1 hP hc ((gWl_get hk0).trans (by rw [hfs9])), fun U hU hW => ⟨rfl, by rw [hU], by rw [hU]; exact gP_sub hs hP, va_K.moved hW.alike X.2.1, gInj_sub hs (gD_inj hD), gNst_warm hW X.2.2.2.2⟩⟩ rfl hn hl.1 hst (lv_room hcat) hd hroom) hS (fun q _ h => hfree q h) hfree (fun r ρ1 t H1 locs1 ht hvm hw hB hz1 hk1 hS1 => kk r ρ1 hw H1 locs1 la (gP_back hs (gD_inj hD) hP hk1 (ht ▸ hB)) (gD_of (gD_inj hD) (fun _ hk => gD_in hD hk)) hS1 hl)
theorem g_mcallVl (X : gX p m c cc nL s args Ts own D cy A) {post : Int64 → (Nat → Nat → Int32) → Prop} (k0 : Nat) (hM : gML l y bytes maxL ret rm D cy n ad cz (.ref (ad k0) :: As) ρ post mc ms) (hL : gLkV own index C y bytes maxL ret nA) (hR : rm.cells = mc ∧ rm.slots = ms ∧ rm.frames + 1 ≤ R.frames ∧ 8 + (maxL + 11) + rm.locals ≤ R.locals) (hk0 : k0 < n) (hO : gOb cz k0 ci) (hc : vwCl[ci]? = some (C, T, N)) (hn : As.length = nA) (hst : st0 = As.reverse ++ .ref (ad k0) :: rest) (hcat : (rest.map fun v => v.category).sum ≤ 8) (hd : decode cc pc = .ok (.invokevirtual index, 3)) (hroom : cells + mc ≤ R.cells ∧ slots + ms ≤ R.slots) (kk : ∀ (r : Int64) (ρ1 : Nat → Nat → Int32), post r ρ1 → GW p l e R s m args below meth c Q nL D A n ad cz ρ1 (cells + mc) (slots + ms) (pc + 3) ls (.long r :: rest)) : GW p l e R s m args below meth c Q nL D A n ad cz ρ cells slots pc ls st0 := g_mcallVl_at X k0 0 (by rw [gOff0]; exact hM) hL hR gSub_self hk0 hO hc hn hst hcat hd hroom (fun r ρ1 hw => g_congr (fun k hk => by rw [gBack_all hk]) (kk r ρ1 hw))
theorem g_mcallVd_at (X : gX p m c cc nL s args Ts own D cy A) {post : UInt64 → (Nat → Nat → Int32) → Prop} (k0 : Nat) (off : Nat) (hM : gMD l y bytes maxL ret rm D cy n' ad' cz' (.ref (ad k0) :: As) (fun j => ρ (off + j)) post mc ms) (hL : gLkV own index C y bytes maxL ret nA) (hR : rm.cells = mc ∧ rm.slots = ms ∧ rm.frames + 1 ≤ R.frames ∧ 8 + (maxL + 11) + rm.locals ≤ R.locals) (hs : gSub n ad cz off n' ad' cz') (hk0 : k0 < n) (hO : gOb cz k0 ci) (hc : vwCl[ci]? = some (C, T, N)) (hn : As.length = nA) (hst : st0 = As.reverse ++ .ref (ad k0) :: rest) (hcat : (rest.map fun v => v.category).sum ≤ 8) (hd : decode cc pc = .ok (.invokevirtual index, 3)) (hroom : cells + mc ≤ R.cells ∧ slots + ms ≤ R.slots) (kk : ∀ (r : UInt64) (ρ1 : Nat → Nat → Int32), post r ρ1 → GW p l e R s m args below meth c Q nL D A n ad cz (gBack ρ off n' ρ1) (cells + mc) (slots + ms) (pc + 3) ls (.double r :: rest)) : GW p l e R s m args below meth c Q nL D A n ad cz ρ cells slots pc ls st0 := by
  intro H locs la hP hD hS hl
  have hfree := gA_sub hs hD hS X.2.2.1
  obtain ⟨fs9, hfs9⟩ := hO (ρ k0)
  exact va_calld (va_runV X.1 (hM H.size) (gCwV X.1.2.2.2.2 X.2.2.2.1 hL hR) ⟨gPc_blind, va_recv X.2.1 hP hc ((gWl_get hk0).trans (by rw [hfs9])), fun U hU hW => ⟨rfl, by rw [hU], by rw [hU]; exact gP_sub hs hP, va_K.moved hW.alike X.2.1, gInj_sub hs (gD_inj hD), gNst_warm hW X.2.2.2.2⟩⟩ rfl hn hl.1 hst (lv_room hcat) hd hroom) hS (fun q _ h => hfree q h) hfree (fun r ρ1 t H1 locs1 ht hvm hw hB hz1 hk1 hS1 => kk r ρ1 hw H1 locs1 la (gP_back hs (gD_inj hD) hP hk1 (ht ▸ hB)) (gD_of (gD_inj hD) (fun _ hk => gD_in hD hk)) hS1 hl)
theorem g_mcallVd (X : gX p m c cc nL s args Ts own D cy A) {post : UInt64 → (Nat → Nat → Int32) → Prop} (k0 : Nat) (hM : gMD l y bytes maxL ret rm D cy n ad cz (.ref (ad k0) :: As) ρ post mc ms) (hL : gLkV own index C y bytes maxL ret nA) (hR : rm.cells = mc ∧ rm.slots = ms ∧ rm.frames + 1 ≤ R.frames ∧ 8 + (maxL + 11) + rm.locals ≤ R.locals) (hk0 : k0 < n) (hO : gOb cz k0 ci) (hc : vwCl[ci]? = some (C, T, N)) (hn : As.length = nA) (hst : st0 = As.reverse ++ .ref (ad k0) :: rest) (hcat : (rest.map fun v => v.category).sum ≤ 8) (hd : decode cc pc = .ok (.invokevirtual index, 3)) (hroom : cells + mc ≤ R.cells ∧ slots + ms ≤ R.slots) (kk : ∀ (r : UInt64) (ρ1 : Nat → Nat → Int32), post r ρ1 → GW p l e R s m args below meth c Q nL D A n ad cz ρ1 (cells + mc) (slots + ms) (pc + 3) ls (.double r :: rest)) : GW p l e R s m args below meth c Q nL D A n ad cz ρ cells slots pc ls st0 := g_mcallVd_at X k0 0 (by rw [gOff0]; exact hM) hL hR gSub_self hk0 hO hc hn hst hcat hd hroom (fun r ρ1 hw => g_congr (fun k hk => by rw [gBack_all hk]) (kk r ρ1 hw))
theorem g_mcallSi_at (X : gX p m c cc nL s args Ts own D cy A) {post : Int32 → (Nat → Nat → Int32) → Prop} (off : Nat) (hM : gMI l y bytes maxL ret rm D cy n' ad' cz' As (fun j => ρ (off + j)) post mc ms) (hL : gLkS own index y bytes maxL ret nA) (hR : rm.cells = mc ∧ rm.slots = ms ∧ rm.frames + 1 ≤ R.frames ∧ 8 + (maxL + 11) + rm.locals ≤ R.locals) (hs : gSub n ad cz off n' ad' cz')  (hn : As.length = nA) (hst : st0 = As.reverse ++ rest) (hcat : (rest.map fun v => v.category).sum ≤ 8) (hd : decode cc pc = .ok (.invokestatic index, 3)) (hroom : cells + mc ≤ R.cells ∧ slots + ms ≤ R.slots) (kk : ∀ (r : Int32) (ρ1 : Nat → Nat → Int32), post r ρ1 → GW p l e R s m args below meth c Q nL D A n ad cz (gBack ρ off n' ρ1) (cells + mc) (slots + ms) (pc + 3) ls (.int r :: rest)) : GW p l e R s m args below meth c Q nL D A n ad cz ρ cells slots pc ls st0 := by
  intro H locs la hP hD hS hl
  have hfree := gA_sub hs hD hS X.2.2.1
  exact va_calli (va_runS X.1 (hM H.size) (gCwS X.1.2.2.2.2 X.2.2.2.1 hL hR) ⟨gPc_blind, fun U hU hW => ⟨rfl, by rw [hU], by rw [hU]; exact gP_sub hs hP, va_K.moved hW.alike X.2.1, gInj_sub hs (gD_inj hD), gNst_warm hW X.2.2.2.2⟩⟩ rfl hn hl.1 hst (lv_room hcat) hd hroom) hS (fun q _ h => hfree q h) hfree (fun r ρ1 t H1 locs1 ht hvm hw hB hz1 hk1 hS1 => kk r ρ1 hw H1 locs1 la (gP_back hs (gD_inj hD) hP hk1 (ht ▸ hB)) (gD_of (gD_inj hD) (fun _ hk => gD_in hD hk)) hS1 hl)
theorem g_mcallSi (X : gX p m c cc nL s args Ts own D cy A) {post : Int32 → (Nat → Nat → Int32) → Prop} (hM : gMI l y bytes maxL ret rm D cy n ad cz As ρ post mc ms) (hL : gLkS own index y bytes maxL ret nA) (hR : rm.cells = mc ∧ rm.slots = ms ∧ rm.frames + 1 ≤ R.frames ∧ 8 + (maxL + 11) + rm.locals ≤ R.locals)  (hn : As.length = nA) (hst : st0 = As.reverse ++ rest) (hcat : (rest.map fun v => v.category).sum ≤ 8) (hd : decode cc pc = .ok (.invokestatic index, 3)) (hroom : cells + mc ≤ R.cells ∧ slots + ms ≤ R.slots) (kk : ∀ (r : Int32) (ρ1 : Nat → Nat → Int32), post r ρ1 → GW p l e R s m args below meth c Q nL D A n ad cz ρ1 (cells + mc) (slots + ms) (pc + 3) ls (.int r :: rest)) : GW p l e R s m args below meth c Q nL D A n ad cz ρ cells slots pc ls st0 := g_mcallSi_at X 0 (by rw [gOff0]; exact hM) hL hR gSub_self hn hst hcat hd hroom (fun r ρ1 hw => g_congr (fun k hk => by rw [gBack_all hk]) (kk r ρ1 hw))
theorem g_mcallSv_at (X : gX p m c cc nL s args Ts own D cy A) {post : (Nat → Nat → Int32) → Prop} (off : Nat) (hM : gMV l y bytes maxL ret rm D cy n' ad' cz' As (fun j => ρ (off + j)) post mc ms) (hL : gLkS own index y bytes maxL ret nA) (hR : rm.cells = mc ∧ rm.slots = ms ∧ rm.frames + 1 ≤ R.frames ∧ 8 + (maxL + 11) + rm.locals ≤ R.locals) (hs : gSub n ad cz off n' ad' cz')  (hn : As.length = nA) (hst : st0 = As.reverse ++ rest) (hcat : (rest.map fun v => v.category).sum ≤ 8) (hd : decode cc pc = .ok (.invokestatic index, 3)) (hroom : cells + mc ≤ R.cells ∧ slots + ms ≤ R.slots) (kk : ∀ (ρ1 : Nat → Nat → Int32), post ρ1 → GW p l e R s m args below meth c Q nL D A n ad cz (gBack ρ off n' ρ1) (cells + mc) (slots + ms) (pc + 3) ls rest) : GW p l e R s m args below meth c Q nL D A n ad cz ρ cells slots pc ls st0 := by
  intro H locs la hP hD hS hl
  have hfree := gA_sub hs hD hS X.2.2.1
  exact va_callv (va_runS X.1 (hM H.size) (gCwS X.1.2.2.2.2 X.2.2.2.1 hL hR) ⟨gPc_blind, fun U hU hW => ⟨rfl, by rw [hU], by rw [hU]; exact gP_sub hs hP, va_K.moved hW.alike X.2.1, gInj_sub hs (gD_inj hD), gNst_warm hW X.2.2.2.2⟩⟩ rfl hn hl.1 hst (lv_room hcat) hd hroom) hS (fun q _ h => hfree q h) hfree (fun ρ1 t H1 locs1 ht hvm hw hB hz1 hk1 hS1 => kk ρ1 hw H1 locs1 la (gP_back hs (gD_inj hD) hP hk1 (ht ▸ hB)) (gD_of (gD_inj hD) (fun _ hk => gD_in hD hk)) hS1 hl)
theorem g_mcallSv (X : gX p m c cc nL s args Ts own D cy A) {post : (Nat → Nat → Int32) → Prop} (hM : gMV l y bytes maxL ret rm D cy n ad cz As ρ post mc ms) (hL : gLkS own index y bytes maxL ret nA) (hR : rm.cells = mc ∧ rm.slots = ms ∧ rm.frames + 1 ≤ R.frames ∧ 8 + (maxL + 11) + rm.locals ≤ R.locals)  (hn : As.length = nA) (hst : st0 = As.reverse ++ rest) (hcat : (rest.map fun v => v.category).sum ≤ 8) (hd : decode cc pc = .ok (.invokestatic index, 3)) (hroom : cells + mc ≤ R.cells ∧ slots + ms ≤ R.slots) (kk : ∀ (ρ1 : Nat → Nat → Int32), post ρ1 → GW p l e R s m args below meth c Q nL D A n ad cz ρ1 (cells + mc) (slots + ms) (pc + 3) ls rest) : GW p l e R s m args below meth c Q nL D A n ad cz ρ cells slots pc ls st0 := g_mcallSv_at X 0 (by rw [gOff0]; exact hM) hL hR gSub_self hn hst hcat hd hroom (fun ρ1 hw => g_congr (fun k hk => by rw [gBack_all hk]) (kk ρ1 hw))
theorem g_mcallSl_at (X : gX p m c cc nL s args Ts own D cy A) {post : Int64 → (Nat → Nat → Int32) → Prop} (off : Nat) (hM : gML l y bytes maxL ret rm D cy n' ad' cz' As (fun j => ρ (off + j)) post mc ms) (hL : gLkS own index y bytes maxL ret nA) (hR : rm.cells = mc ∧ rm.slots = ms ∧ rm.frames + 1 ≤ R.frames ∧ 8 + (maxL + 11) + rm.locals ≤ R.locals) (hs : gSub n ad cz off n' ad' cz')  (hn : As.length = nA) (hst : st0 = As.reverse ++ rest) (hcat : (rest.map fun v => v.category).sum ≤ 8) (hd : decode cc pc = .ok (.invokestatic index, 3)) (hroom : cells + mc ≤ R.cells ∧ slots + ms ≤ R.slots) (kk : ∀ (r : Int64) (ρ1 : Nat → Nat → Int32), post r ρ1 → GW p l e R s m args below meth c Q nL D A n ad cz (gBack ρ off n' ρ1) (cells + mc) (slots + ms) (pc + 3) ls (.long r :: rest)) : GW p l e R s m args below meth c Q nL D A n ad cz ρ cells slots pc ls st0 := by
  intro H locs la hP hD hS hl
  have hfree := gA_sub hs hD hS X.2.2.1
  exact va_calll (va_runS X.1 (hM H.size) (gCwS X.1.2.2.2.2 X.2.2.2.1 hL hR) ⟨gPc_blind, fun U hU hW => ⟨rfl, by rw [hU], by rw [hU]; exact gP_sub hs hP, va_K.moved hW.alike X.2.1, gInj_sub hs (gD_inj hD), gNst_warm hW X.2.2.2.2⟩⟩ rfl hn hl.1 hst (lv_room hcat) hd hroom) hS (fun q _ h => hfree q h) hfree (fun r ρ1 t H1 locs1 ht hvm hw hB hz1 hk1 hS1 => kk r ρ1 hw H1 locs1 la (gP_back hs (gD_inj hD) hP hk1 (ht ▸ hB)) (gD_of (gD_inj hD) (fun _ hk => gD_in hD hk)) hS1 hl)
theorem g_mcallSl (X : gX p m c cc nL s args Ts own D cy A) {post : Int64 → (Nat → Nat → Int32) → Prop} (hM : gML l y bytes maxL ret rm D cy n ad cz As ρ post mc ms) (hL : gLkS own index y bytes maxL ret nA) (hR : rm.cells = mc ∧ rm.slots = ms ∧ rm.frames + 1 ≤ R.frames ∧ 8 + (maxL + 11) + rm.locals ≤ R.locals)  (hn : As.length = nA) (hst : st0 = As.reverse ++ rest) (hcat : (rest.map fun v => v.category).sum ≤ 8) (hd : decode cc pc = .ok (.invokestatic index, 3)) (hroom : cells + mc ≤ R.cells ∧ slots + ms ≤ R.slots) (kk : ∀ (r : Int64) (ρ1 : Nat → Nat → Int32), post r ρ1 → GW p l e R s m args below meth c Q nL D A n ad cz ρ1 (cells + mc) (slots + ms) (pc + 3) ls (.long r :: rest)) : GW p l e R s m args below meth c Q nL D A n ad cz ρ cells slots pc ls st0 := g_mcallSl_at X 0 (by rw [gOff0]; exact hM) hL hR gSub_self hn hst hcat hd hroom (fun r ρ1 hw => g_congr (fun k hk => by rw [gBack_all hk]) (kk r ρ1 hw))
theorem g_mcallSd_at (X : gX p m c cc nL s args Ts own D cy A) {post : UInt64 → (Nat → Nat → Int32) → Prop} (off : Nat) (hM : gMD l y bytes maxL ret rm D cy n' ad' cz' As (fun j => ρ (off + j)) post mc ms) (hL : gLkS own index y bytes maxL ret nA) (hR : rm.cells = mc ∧ rm.slots = ms ∧ rm.frames + 1 ≤ R.frames ∧ 8 + (maxL + 11) + rm.locals ≤ R.locals) (hs : gSub n ad cz off n' ad' cz')  (hn : As.length = nA) (hst : st0 = As.reverse ++ rest) (hcat : (rest.map fun v => v.category).sum ≤ 8) (hd : decode cc pc = .ok (.invokestatic index, 3)) (hroom : cells + mc ≤ R.cells ∧ slots + ms ≤ R.slots) (kk : ∀ (r : UInt64) (ρ1 : Nat → Nat → Int32), post r ρ1 → GW p l e R s m args below meth c Q nL D A n ad cz (gBack ρ off n' ρ1) (cells + mc) (slots + ms) (pc + 3) ls (.double r :: rest)) : GW p l e R s m args below meth c Q nL D A n ad cz ρ cells slots pc ls st0 := by
  intro H locs la hP hD hS hl
  have hfree := gA_sub hs hD hS X.2.2.1
  exact va_calld (va_runS X.1 (hM H.size) (gCwS X.1.2.2.2.2 X.2.2.2.1 hL hR) ⟨gPc_blind, fun U hU hW => ⟨rfl, by rw [hU], by rw [hU]; exact gP_sub hs hP, va_K.moved hW.alike X.2.1, gInj_sub hs (gD_inj hD), gNst_warm hW X.2.2.2.2⟩⟩ rfl hn hl.1 hst (lv_room hcat) hd hroom) hS (fun q _ h => hfree q h) hfree (fun r ρ1 t H1 locs1 ht hvm hw hB hz1 hk1 hS1 => kk r ρ1 hw H1 locs1 la (gP_back hs (gD_inj hD) hP hk1 (ht ▸ hB)) (gD_of (gD_inj hD) (fun _ hk => gD_in hD hk)) hS1 hl)
theorem g_mcallSd (X : gX p m c cc nL s args Ts own D cy A) {post : UInt64 → (Nat → Nat → Int32) → Prop} (hM : gMD l y bytes maxL ret rm D cy n ad cz As ρ post mc ms) (hL : gLkS own index y bytes maxL ret nA) (hR : rm.cells = mc ∧ rm.slots = ms ∧ rm.frames + 1 ≤ R.frames ∧ 8 + (maxL + 11) + rm.locals ≤ R.locals)  (hn : As.length = nA) (hst : st0 = As.reverse ++ rest) (hcat : (rest.map fun v => v.category).sum ≤ 8) (hd : decode cc pc = .ok (.invokestatic index, 3)) (hroom : cells + mc ≤ R.cells ∧ slots + ms ≤ R.slots) (kk : ∀ (r : UInt64) (ρ1 : Nat → Nat → Int32), post r ρ1 → GW p l e R s m args below meth c Q nL D A n ad cz ρ1 (cells + mc) (slots + ms) (pc + 3) ls (.double r :: rest)) : GW p l e R s m args below meth c Q nL D A n ad cz ρ cells slots pc ls st0 := g_mcallSd_at X 0 (by rw [gOff0]; exact hM) hL hR gSub_self hn hst hcat hd hroom (fun r ρ1 hw => g_congr (fun k hk => by rw [gBack_all hk]) (kk r ρ1 hw))
theorem g_xcallVi_at (X : gX p m c cc nL s args Ts own D cy A) (hE : gEnv s A) {xp : String → Prop} {post : Int32 → (Nat → Nat → Int32) → Prop} (k0 : Nat) (off : Nat) (hM : gXI l y bytes maxL ret rm D cy n' ad' cz' (.ref (ad k0) :: As) (fun j => ρ (off + j)) post xp mc ms) (hL : gLkV own index C y bytes maxL ret nA) (hR : rm.cells = mc ∧ rm.slots = ms ∧ rm.frames + 1 ≤ R.frames ∧ 8 + (maxL + 11) + rm.locals ≤ R.locals) (hs : gSub n ad cz off n' ad' cz') (hk0 : k0 < n) (hO : gOb cz k0 ci) (hc : vwCl[ci]? = some (C, T, N)) (hn : As.length = nA) (hst : st0 = As.reverse ++ .ref (ad k0) :: rest) (hcat : (rest.map fun v => v.category).sum ≤ 8) (hd : decode cc pc = .ok (.invokevirtual index, 3)) (hroom : cells + mc ≤ R.cells ∧ slots + ms ≤ R.slots) (kx : ∀ (E : String) (ce : Cell) (q9 : Addr) (H1 : Heap) (locs1 : List Loc) (la : Array Slot), xp E → va_P D vwCl (gWl n ad cz ρ) H1 → va_D A (gWl n ad cz ρ) → va_S A s.heap H1 locs1 → lv_has la nL ls → H1[q9]? = some ce → ce.vm = .none → s.vm.findClass E = some ce.cls → vx_W p l e R s m args below meth c H1 locs1 (cells + mc) (slots + ms) Q (F0 m pc la rest) q9) (kk : ∀ (r : Int32) (ρ1 : Nat → Nat → Int32), post r ρ1 → GW p l e R s m args below meth c Q nL D A n ad cz (gBack ρ off n' ρ1) (cells + mc) (slots + ms) (pc + 3) ls (.int r :: rest)) : GW p l e R s m args below meth c Q nL D A n ad cz ρ cells slots pc ls st0 := by
  intro H locs la hP hD hS hl
  have hfree := gA_sub hs hD hS X.2.2.1
  obtain ⟨fs9, hfs9⟩ := hO (ρ k0)
  exact vx_calli (vx_runV X.1 (hM H.size) (gCwV X.1.2.2.2.2 X.2.2.2.1 hL hR) ⟨gPx_blind, va_recv X.2.1 hP hc ((gWl_get hk0).trans (by rw [hfs9])), fun U hU hW => ⟨rfl, by rw [hU], by rw [hU]; exact gP_sub hs hP, va_K.moved hW.alike X.2.1, gInj_sub hs (gD_inj hD), gNst_warm hW X.2.2.2.2, gEnv_at hE hW hU hS hfree⟩⟩ rfl hn hl.1 hst (lv_room hcat) hd hroom) hS (fun q _ h => hfree q h) hfree (fun q _ h => hfree q h) (fun E ce q9 _ t H1 locs1 ht hvm _ hB hz1 hk1 hS1 hce hcv hcl => by
      have hP1 := gP_back hs (gD_inj hD) hP hk1 (ht ▸ hB.2)
      exact kx E ce q9 H1 locs1 la hB.1 (gP_congr (fun k _ => by simp only [gBack]; split <;> simp_all) hP1) (gD_of (gD_inj hD) (fun _ hk => gD_in hD hk)) hS1 hl hce hcv hcl) (fun r ρ1 t H1 locs1 ht hvm hw hB hz1 hk1 hS1 => kk r ρ1 hw H1 locs1 la (gP_back hs (gD_inj hD) hP hk1 (ht ▸ hB)) (gD_of (gD_inj hD) (fun _ hk => gD_in hD hk)) hS1 hl)
theorem g_xcallVi (X : gX p m c cc nL s args Ts own D cy A) (hE : gEnv s A) {xp : String → Prop} {post : Int32 → (Nat → Nat → Int32) → Prop} (k0 : Nat) (hM : gXI l y bytes maxL ret rm D cy n ad cz (.ref (ad k0) :: As) ρ post xp mc ms) (hL : gLkV own index C y bytes maxL ret nA) (hR : rm.cells = mc ∧ rm.slots = ms ∧ rm.frames + 1 ≤ R.frames ∧ 8 + (maxL + 11) + rm.locals ≤ R.locals) (hk0 : k0 < n) (hO : gOb cz k0 ci) (hc : vwCl[ci]? = some (C, T, N)) (hn : As.length = nA) (hst : st0 = As.reverse ++ .ref (ad k0) :: rest) (hcat : (rest.map fun v => v.category).sum ≤ 8) (hd : decode cc pc = .ok (.invokevirtual index, 3)) (hroom : cells + mc ≤ R.cells ∧ slots + ms ≤ R.slots) (kx : ∀ (E : String) (ce : Cell) (q9 : Addr) (H1 : Heap) (locs1 : List Loc) (la : Array Slot), xp E → va_P D vwCl (gWl n ad cz ρ) H1 → va_D A (gWl n ad cz ρ) → va_S A s.heap H1 locs1 → lv_has la nL ls → H1[q9]? = some ce → ce.vm = .none → s.vm.findClass E = some ce.cls → vx_W p l e R s m args below meth c H1 locs1 (cells + mc) (slots + ms) Q (F0 m pc la rest) q9) (kk : ∀ (r : Int32) (ρ1 : Nat → Nat → Int32), post r ρ1 → GW p l e R s m args below meth c Q nL D A n ad cz ρ1 (cells + mc) (slots + ms) (pc + 3) ls (.int r :: rest)) : GW p l e R s m args below meth c Q nL D A n ad cz ρ cells slots pc ls st0 := g_xcallVi_at X hE k0 0 (by rw [gOff0]; exact hM) hL hR gSub_self hk0 hO hc hn hst hcat hd hroom kx (fun r ρ1 hw => g_congr (fun k hk => by rw [gBack_all hk]) (kk r ρ1 hw))
theorem g_xcallVv_at (X : gX p m c cc nL s args Ts own D cy A) (hE : gEnv s A) {xp : String → Prop} {post : (Nat → Nat → Int32) → Prop} (k0 : Nat) (off : Nat) (hM : gXV l y bytes maxL ret rm D cy n' ad' cz' (.ref (ad k0) :: As) (fun j => ρ (off + j)) post xp mc ms) (hL : gLkV own index C y bytes maxL ret nA) (hR : rm.cells = mc ∧ rm.slots = ms ∧ rm.frames + 1 ≤ R.frames ∧ 8 + (maxL + 11) + rm.locals ≤ R.locals) (hs : gSub n ad cz off n' ad' cz') (hk0 : k0 < n) (hO : gOb cz k0 ci) (hc : vwCl[ci]? = some (C, T, N)) (hn : As.length = nA) (hst : st0 = As.reverse ++ .ref (ad k0) :: rest) (hcat : (rest.map fun v => v.category).sum ≤ 8) (hd : decode cc pc = .ok (.invokevirtual index, 3)) (hroom : cells + mc ≤ R.cells ∧ slots + ms ≤ R.slots) (kx : ∀ (E : String) (ce : Cell) (q9 : Addr) (H1 : Heap) (locs1 : List Loc) (la : Array Slot), xp E → va_P D vwCl (gWl n ad cz ρ) H1 → va_D A (gWl n ad cz ρ) → va_S A s.heap H1 locs1 → lv_has la nL ls → H1[q9]? = some ce → ce.vm = .none → s.vm.findClass E = some ce.cls → vx_W p l e R s m args below meth c H1 locs1 (cells + mc) (slots + ms) Q (F0 m pc la rest) q9) (kk : ∀ (ρ1 : Nat → Nat → Int32), post ρ1 → GW p l e R s m args below meth c Q nL D A n ad cz (gBack ρ off n' ρ1) (cells + mc) (slots + ms) (pc + 3) ls rest) : GW p l e R s m args below meth c Q nL D A n ad cz ρ cells slots pc ls st0 := by
  intro H locs la hP hD hS hl
  have hfree := gA_sub hs hD hS X.2.2.1
  obtain ⟨fs9, hfs9⟩ := hO (ρ k0)
  exact vx_callv (vx_runV X.1 (hM H.size) (gCwV X.1.2.2.2.2 X.2.2.2.1 hL hR) ⟨gPx_blind, va_recv X.2.1 hP hc ((gWl_get hk0).trans (by rw [hfs9])), fun U hU hW => ⟨rfl, by rw [hU], by rw [hU]; exact gP_sub hs hP, va_K.moved hW.alike X.2.1, gInj_sub hs (gD_inj hD), gNst_warm hW X.2.2.2.2, gEnv_at hE hW hU hS hfree⟩⟩ rfl hn hl.1 hst (lv_room hcat) hd hroom) hS (fun q _ h => hfree q h) hfree (fun q _ h => hfree q h) (fun E ce q9 _ t H1 locs1 ht hvm _ hB hz1 hk1 hS1 hce hcv hcl => by
      have hP1 := gP_back hs (gD_inj hD) hP hk1 (ht ▸ hB.2)
      exact kx E ce q9 H1 locs1 la hB.1 (gP_congr (fun k _ => by simp only [gBack]; split <;> simp_all) hP1) (gD_of (gD_inj hD) (fun _ hk => gD_in hD hk)) hS1 hl hce hcv hcl) (fun ρ1 t H1 locs1 ht hvm hw hB hz1 hk1 hS1 => kk ρ1 hw H1 locs1 la (gP_back hs (gD_inj hD) hP hk1 (ht ▸ hB)) (gD_of (gD_inj hD) (fun _ hk => gD_in hD hk)) hS1 hl)
theorem g_xcallVv (X : gX p m c cc nL s args Ts own D cy A) (hE : gEnv s A) {xp : String → Prop} {post : (Nat → Nat → Int32) → Prop} (k0 : Nat) (hM : gXV l y bytes maxL ret rm D cy n ad cz (.ref (ad k0) :: As) ρ post xp mc ms) (hL : gLkV own index C y bytes maxL ret nA) (hR : rm.cells = mc ∧ rm.slots = ms ∧ rm.frames + 1 ≤ R.frames ∧ 8 + (maxL + 11) + rm.locals ≤ R.locals) (hk0 : k0 < n) (hO : gOb cz k0 ci) (hc : vwCl[ci]? = some (C, T, N)) (hn : As.length = nA) (hst : st0 = As.reverse ++ .ref (ad k0) :: rest) (hcat : (rest.map fun v => v.category).sum ≤ 8) (hd : decode cc pc = .ok (.invokevirtual index, 3)) (hroom : cells + mc ≤ R.cells ∧ slots + ms ≤ R.slots) (kx : ∀ (E : String) (ce : Cell) (q9 : Addr) (H1 : Heap) (locs1 : List Loc) (la : Array Slot), xp E → va_P D vwCl (gWl n ad cz ρ) H1 → va_D A (gWl n ad cz ρ) → va_S A s.heap H1 locs1 → lv_has la nL ls → H1[q9]? = some ce → ce.vm = .none → s.vm.findClass E = some ce.cls → vx_W p l e R s m args below meth c H1 locs1 (cells + mc) (slots + ms) Q (F0 m pc la rest) q9) (kk : ∀ (ρ1 : Nat → Nat → Int32), post ρ1 → GW p l e R s m args below meth c Q nL D A n ad cz ρ1 (cells + mc) (slots + ms) (pc + 3) ls rest) : GW p l e R s m args below meth c Q nL D A n ad cz ρ cells slots pc ls st0 := g_xcallVv_at X hE k0 0 (by rw [gOff0]; exact hM) hL hR gSub_self hk0 hO hc hn hst hcat hd hroom kx (fun ρ1 hw => g_congr (fun k hk => by rw [gBack_all hk]) (kk ρ1 hw))
theorem g_xcallSi_at (X : gX p m c cc nL s args Ts own D cy A) (hE : gEnv s A) {xp : String → Prop} {post : Int32 → (Nat → Nat → Int32) → Prop} (off : Nat) (hM : gXI l y bytes maxL ret rm D cy n' ad' cz' As (fun j => ρ (off + j)) post xp mc ms) (hL : gLkS own index y bytes maxL ret nA) (hR : rm.cells = mc ∧ rm.slots = ms ∧ rm.frames + 1 ≤ R.frames ∧ 8 + (maxL + 11) + rm.locals ≤ R.locals) (hs : gSub n ad cz off n' ad' cz')  (hn : As.length = nA) (hst : st0 = As.reverse ++ rest) (hcat : (rest.map fun v => v.category).sum ≤ 8) (hd : decode cc pc = .ok (.invokestatic index, 3)) (hroom : cells + mc ≤ R.cells ∧ slots + ms ≤ R.slots) (kx : ∀ (E : String) (ce : Cell) (q9 : Addr) (H1 : Heap) (locs1 : List Loc) (la : Array Slot), xp E → va_P D vwCl (gWl n ad cz ρ) H1 → va_D A (gWl n ad cz ρ) → va_S A s.heap H1 locs1 → lv_has la nL ls → H1[q9]? = some ce → ce.vm = .none → s.vm.findClass E = some ce.cls → vx_W p l e R s m args below meth c H1 locs1 (cells + mc) (slots + ms) Q (F0 m pc la rest) q9) (kk : ∀ (r : Int32) (ρ1 : Nat → Nat → Int32), post r ρ1 → GW p l e R s m args below meth c Q nL D A n ad cz (gBack ρ off n' ρ1) (cells + mc) (slots + ms) (pc + 3) ls (.int r :: rest)) : GW p l e R s m args below meth c Q nL D A n ad cz ρ cells slots pc ls st0 := by
  intro H locs la hP hD hS hl
  have hfree := gA_sub hs hD hS X.2.2.1
  exact vx_calli (vx_runS X.1 (hM H.size) (gCwS X.1.2.2.2.2 X.2.2.2.1 hL hR) ⟨gPx_blind, fun U hU hW => ⟨rfl, by rw [hU], by rw [hU]; exact gP_sub hs hP, va_K.moved hW.alike X.2.1, gInj_sub hs (gD_inj hD), gNst_warm hW X.2.2.2.2, gEnv_at hE hW hU hS hfree⟩⟩ rfl hn hl.1 hst (lv_room hcat) hd hroom) hS (fun q _ h => hfree q h) hfree (fun q _ h => hfree q h) (fun E ce q9 _ t H1 locs1 ht hvm _ hB hz1 hk1 hS1 hce hcv hcl => by
      have hP1 := gP_back hs (gD_inj hD) hP hk1 (ht ▸ hB.2)
      exact kx E ce q9 H1 locs1 la hB.1 (gP_congr (fun k _ => by simp only [gBack]; split <;> simp_all) hP1) (gD_of (gD_inj hD) (fun _ hk => gD_in hD hk)) hS1 hl hce hcv hcl) (fun r ρ1 t H1 locs1 ht hvm hw hB hz1 hk1 hS1 => kk r ρ1 hw H1 locs1 la (gP_back hs (gD_inj hD) hP hk1 (ht ▸ hB)) (gD_of (gD_inj hD) (fun _ hk => gD_in hD hk)) hS1 hl)
theorem g_xcallSi (X : gX p m c cc nL s args Ts own D cy A) (hE : gEnv s A) {xp : String → Prop} {post : Int32 → (Nat → Nat → Int32) → Prop} (hM : gXI l y bytes maxL ret rm D cy n ad cz As ρ post xp mc ms) (hL : gLkS own index y bytes maxL ret nA) (hR : rm.cells = mc ∧ rm.slots = ms ∧ rm.frames + 1 ≤ R.frames ∧ 8 + (maxL + 11) + rm.locals ≤ R.locals)  (hn : As.length = nA) (hst : st0 = As.reverse ++ rest) (hcat : (rest.map fun v => v.category).sum ≤ 8) (hd : decode cc pc = .ok (.invokestatic index, 3)) (hroom : cells + mc ≤ R.cells ∧ slots + ms ≤ R.slots) (kx : ∀ (E : String) (ce : Cell) (q9 : Addr) (H1 : Heap) (locs1 : List Loc) (la : Array Slot), xp E → va_P D vwCl (gWl n ad cz ρ) H1 → va_D A (gWl n ad cz ρ) → va_S A s.heap H1 locs1 → lv_has la nL ls → H1[q9]? = some ce → ce.vm = .none → s.vm.findClass E = some ce.cls → vx_W p l e R s m args below meth c H1 locs1 (cells + mc) (slots + ms) Q (F0 m pc la rest) q9) (kk : ∀ (r : Int32) (ρ1 : Nat → Nat → Int32), post r ρ1 → GW p l e R s m args below meth c Q nL D A n ad cz ρ1 (cells + mc) (slots + ms) (pc + 3) ls (.int r :: rest)) : GW p l e R s m args below meth c Q nL D A n ad cz ρ cells slots pc ls st0 := g_xcallSi_at X hE 0 (by rw [gOff0]; exact hM) hL hR gSub_self hn hst hcat hd hroom kx (fun r ρ1 hw => g_congr (fun k hk => by rw [gBack_all hk]) (kk r ρ1 hw))
theorem g_xcallSv_at (X : gX p m c cc nL s args Ts own D cy A) (hE : gEnv s A) {xp : String → Prop} {post : (Nat → Nat → Int32) → Prop} (off : Nat) (hM : gXV l y bytes maxL ret rm D cy n' ad' cz' As (fun j => ρ (off + j)) post xp mc ms) (hL : gLkS own index y bytes maxL ret nA) (hR : rm.cells = mc ∧ rm.slots = ms ∧ rm.frames + 1 ≤ R.frames ∧ 8 + (maxL + 11) + rm.locals ≤ R.locals) (hs : gSub n ad cz off n' ad' cz')  (hn : As.length = nA) (hst : st0 = As.reverse ++ rest) (hcat : (rest.map fun v => v.category).sum ≤ 8) (hd : decode cc pc = .ok (.invokestatic index, 3)) (hroom : cells + mc ≤ R.cells ∧ slots + ms ≤ R.slots) (kx : ∀ (E : String) (ce : Cell) (q9 : Addr) (H1 : Heap) (locs1 : List Loc) (la : Array Slot), xp E → va_P D vwCl (gWl n ad cz ρ) H1 → va_D A (gWl n ad cz ρ) → va_S A s.heap H1 locs1 → lv_has la nL ls → H1[q9]? = some ce → ce.vm = .none → s.vm.findClass E = some ce.cls → vx_W p l e R s m args below meth c H1 locs1 (cells + mc) (slots + ms) Q (F0 m pc la rest) q9) (kk : ∀ (ρ1 : Nat → Nat → Int32), post ρ1 → GW p l e R s m args below meth c Q nL D A n ad cz (gBack ρ off n' ρ1) (cells + mc) (slots + ms) (pc + 3) ls rest) : GW p l e R s m args below meth c Q nL D A n ad cz ρ cells slots pc ls st0 := by
  intro H locs la hP hD hS hl
  have hfree := gA_sub hs hD hS X.2.2.1
  exact vx_callv (vx_runS X.1 (hM H.size) (gCwS X.1.2.2.2.2 X.2.2.2.1 hL hR) ⟨gPx_blind, fun U hU hW => ⟨rfl, by rw [hU], by rw [hU]; exact gP_sub hs hP, va_K.moved hW.alike X.2.1, gInj_sub hs (gD_inj hD), gNst_warm hW X.2.2.2.2, gEnv_at hE hW hU hS hfree⟩⟩ rfl hn hl.1 hst (lv_room hcat) hd hroom) hS (fun q _ h => hfree q h) hfree (fun q _ h => hfree q h) (fun E ce q9 _ t H1 locs1 ht hvm _ hB hz1 hk1 hS1 hce hcv hcl => by
      have hP1 := gP_back hs (gD_inj hD) hP hk1 (ht ▸ hB.2)
      exact kx E ce q9 H1 locs1 la hB.1 (gP_congr (fun k _ => by simp only [gBack]; split <;> simp_all) hP1) (gD_of (gD_inj hD) (fun _ hk => gD_in hD hk)) hS1 hl hce hcv hcl) (fun ρ1 t H1 locs1 ht hvm hw hB hz1 hk1 hS1 => kk ρ1 hw H1 locs1 la (gP_back hs (gD_inj hD) hP hk1 (ht ▸ hB)) (gD_of (gD_inj hD) (fun _ hk => gD_in hD hk)) hS1 hl)
theorem g_xcallSv (X : gX p m c cc nL s args Ts own D cy A) (hE : gEnv s A) {xp : String → Prop} {post : (Nat → Nat → Int32) → Prop} (hM : gXV l y bytes maxL ret rm D cy n ad cz As ρ post xp mc ms) (hL : gLkS own index y bytes maxL ret nA) (hR : rm.cells = mc ∧ rm.slots = ms ∧ rm.frames + 1 ≤ R.frames ∧ 8 + (maxL + 11) + rm.locals ≤ R.locals)  (hn : As.length = nA) (hst : st0 = As.reverse ++ rest) (hcat : (rest.map fun v => v.category).sum ≤ 8) (hd : decode cc pc = .ok (.invokestatic index, 3)) (hroom : cells + mc ≤ R.cells ∧ slots + ms ≤ R.slots) (kx : ∀ (E : String) (ce : Cell) (q9 : Addr) (H1 : Heap) (locs1 : List Loc) (la : Array Slot), xp E → va_P D vwCl (gWl n ad cz ρ) H1 → va_D A (gWl n ad cz ρ) → va_S A s.heap H1 locs1 → lv_has la nL ls → H1[q9]? = some ce → ce.vm = .none → s.vm.findClass E = some ce.cls → vx_W p l e R s m args below meth c H1 locs1 (cells + mc) (slots + ms) Q (F0 m pc la rest) q9) (kk : ∀ (ρ1 : Nat → Nat → Int32), post ρ1 → GW p l e R s m args below meth c Q nL D A n ad cz ρ1 (cells + mc) (slots + ms) (pc + 3) ls rest) : GW p l e R s m args below meth c Q nL D A n ad cz ρ cells slots pc ls st0 := g_xcallSv_at X hE 0 (by rw [gOff0]; exact hM) hL hR gSub_self hn hst hcat hd hroom kx (fun ρ1 hw => g_congr (fun k hk => by rw [gBack_all hk]) (kk ρ1 hw))
theorem g_mcallSNi (X : gX p m c cc nL s args Ts own D cy A) {host : String} {post : Int32 → (Nat → Nat → Int32) → Prop} (hM : gMI l y bytes maxL ret rm D cy n ad cz As ρ post mc ms) (hl9 : Cond.methodLinkNest own index y host ∈ gNsw) (h8 : Cond.static y ∈ wAll) (h4 : Cond.initialized y.cls ∈ wAll) (h5 : Cond.code y bytes maxL ret ∈ wAll) (h6 : y.cls ≠ "java/lang/invoke/MethodHandle" ∧ y.cls ≠ "java/lang/invoke/VarHandle" ∧ (parseMethodDescriptor y.desc).map (fun d => d.parameters.length) = some nA) (hR : rm.cells = mc ∧ rm.slots = ms ∧ rm.frames + 1 ≤ R.frames ∧ 8 + (maxL + 11) + rm.locals ≤ R.locals) (hn : As.length = nA) (hst : st0 = As.reverse ++ rest) (hcat : (rest.map fun v => v.category).sum ≤ 8) (hd : decode cc pc = .ok (.invokestatic index, 3)) (hroom : cells + mc ≤ R.cells ∧ slots + ms ≤ R.slots) (kk : ∀ (r : Int32) (ρ1 : Nat → Nat → Int32), post r ρ1 → GW p l e R s m args below meth c Q nL D A n ad cz ρ1 (cells + mc) (slots + ms) (pc + 3) ls (.int r :: rest)) : GW p l e R s m args below meth c Q nL D A n ad cz ρ cells slots pc ls st0 := by
  intro H locs la hP hD hS hl
  have hfree := gA_sub gSub_self hD hS X.2.2.1
  exact va_calli (va_runSN X.1 (hM H.size) ⟨gCwN X.1.2.2.2.2 X.2.2.2.1 X.2.2.2.2 hl9 h4 h5 h6 hR, X.1.2.2.2.2 _ (X.2.2.2.1 _ h8), trivial⟩ ⟨gPc_blind, fun U hU hW => ⟨rfl, by rw [hU], by rw [hU]; exact hP, va_K.moved hW.alike X.2.1, gD_inj hD, gNst_warm hW X.2.2.2.2⟩⟩ rfl hn hl.1 hst (lv_room hcat) hd hroom) hS (fun q _ h => hfree q h) hfree (fun r ρ1 t H1 locs1 ht hvm hw hB hz1 hk1 hS1 => kk r ρ1 hw H1 locs1 la (ht ▸ hB) (gD_of (gD_inj hD) (fun _ hk => gD_in hD hk)) hS1 hl)
theorem g_iret (X : gX p m c cc nL s args Ts own D cy A) (hr : meth.sig.returnType = some .int) (hlocks : meth.locks = false) {post : Int32 → (Nat → Nat → Int32) → Prop} {v : Int32} (hc : cells ≤ mc) (hs : slots ≤ ms) (hd : decode cc pc = .ok (.ireturn, 1)) (hq : post v ρ) : GW p l e R s m args below meth c (MQ below (va_Qi post (gB D n ad cz) A) args s mc ms A) nL D A n ad cz ρ cells slots pc ls [.int v] := fun H locs la hP hD hS hl => W.widen hc hs (W.iret X.1.1 X.1.2.1 hr (fun t ht hW => ⟨⟨v, ρ, rfl, hq, by show va_P _ _ _ t.heap; rw [ht]; exact hP⟩, hS.F ht⟩) hS.2.2 hd hlocks)
theorem g_xiret (X : gX p m c cc nL s args Ts own D cy A) (hr : meth.sig.returnType = some .int) (hlocks : meth.locks = false) {post : Int32 → (Nat → Nat → Int32) → Prop} {xp : String → Prop} {ρ0 : Nat → Nat → Int32} {v : Int32} (hc : cells ≤ mc) (hs : slots ≤ ms) (hd : decode cc pc = .ok (.ireturn, 1)) (hq : post v ρ) : GW p l e R s m args below meth c (vx_MQ below (va_Qi post (gB D n ad cz) A) (gXC D n ad cz ρ0 xp A) args s mc ms A) nL D A n ad cz ρ cells slots pc ls [.int v] := fun H locs la hP hD hS hl => vx_ret (W.widen hc hs (W.iret X.1.1 X.1.2.1 hr (fun t ht hW => ⟨⟨v, ρ, rfl, hq, by show va_P _ _ _ t.heap; rw [ht]; exact hP⟩, hS.F ht⟩) hS.2.2 hd hlocks))
theorem g_vret (X : gX p m c cc nL s args Ts own D cy A) (hr : meth.sig.returnType = none) (hlocks : meth.locks = false) {post : (Nat → Nat → Int32) → Prop} (hc : cells ≤ mc) (hs : slots ≤ ms) (hd : decode cc pc = .ok (.return_, 1)) (hq : post ρ) : GW p l e R s m args below meth c (MQ below (va_Qv post (gB D n ad cz) A) args s mc ms A) nL D A n ad cz ρ cells slots pc ls [] := fun H locs la hP hD hS hl => W.widen hc hs (W.vret X.1.1 X.1.2.1 hr (fun t ht hW => ⟨⟨ρ, rfl, hq, by show va_P _ _ _ t.heap; rw [ht]; exact hP⟩, hS.F ht⟩) hS.2.2 hd hlocks)
theorem g_xvret (X : gX p m c cc nL s args Ts own D cy A) (hr : meth.sig.returnType = none) (hlocks : meth.locks = false) {post : (Nat → Nat → Int32) → Prop} {xp : String → Prop} {ρ0 : Nat → Nat → Int32} (hc : cells ≤ mc) (hs : slots ≤ ms) (hd : decode cc pc = .ok (.return_, 1)) (hq : post ρ) : GW p l e R s m args below meth c (vx_MQ below (va_Qv post (gB D n ad cz) A) (gXC D n ad cz ρ0 xp A) args s mc ms A) nL D A n ad cz ρ cells slots pc ls [] := fun H locs la hP hD hS hl => vx_ret (W.widen hc hs (W.vret X.1.1 X.1.2.1 hr (fun t ht hW => ⟨⟨ρ, rfl, hq, by show va_P _ _ _ t.heap; rw [ht]; exact hP⟩, hS.F ht⟩) hS.2.2 hd hlocks))
theorem g_lret (X : gX p m c cc nL s args Ts own D cy A) (hr : meth.sig.returnType = some .long) (hlocks : meth.locks = false) {post : Int64 → (Nat → Nat → Int32) → Prop} {v : Int64} (hc : cells ≤ mc) (hs : slots ≤ ms) (hd : decode cc pc = .ok (.lreturn, 1)) (hq : post v ρ) : GW p l e R s m args below meth c (MQ below (va_Ql post (gB D n ad cz) A) args s mc ms A) nL D A n ad cz ρ cells slots pc ls [.long v] := fun H locs la hP hD hS hl => W.widen hc hs (W.lret X.1.1 X.1.2.1 hr (fun t ht hW => ⟨⟨v, ρ, rfl, hq, by show va_P _ _ _ t.heap; rw [ht]; exact hP⟩, hS.F ht⟩) hS.2.2 hd hlocks)
theorem g_dret (X : gX p m c cc nL s args Ts own D cy A) (hr : meth.sig.returnType = some .double) (hlocks : meth.locks = false) {post : UInt64 → (Nat → Nat → Int32) → Prop} {v : UInt64} (hc : cells ≤ mc) (hs : slots ≤ ms) (hd : decode cc pc = .ok (.dreturn, 1)) (hq : post v ρ) : GW p l e R s m args below meth c (MQ below (va_Qd post (gB D n ad cz) A) args s mc ms A) nL D A n ad cz ρ cells slots pc ls [.double v] := fun H locs la hP hD hS hl => W.widen hc hs (W.dret X.1.1 X.1.2.1 hr (fun t ht hW => ⟨⟨v, ρ, rfl, hq, by show va_P _ _ _ t.heap; rw [ht]; exact hP⟩, hS.F ht⟩) hS.2.2 hd hlocks)
theorem g_zret (X : gX p m c cc nL s args Ts own D cy A) {ty : FieldType} (hr : meth.sig.returnType = some ty) (hlocks : meth.locks = false) {post : Int32 → (Nat → Nat → Int32) → Prop} {v : Int32} (hn : narrow ty (.int v) = .int v) (hc : cells ≤ mc) (hs : slots ≤ ms) (hd : decode cc pc = .ok (.ireturn, 1)) (hq : post v ρ) : GW p l e R s m args below meth c (MQ below (va_Qi post (gB D n ad cz) A) args s mc ms A) nL D A n ad cz ρ cells slots pc ls [.int v] := fun H locs la hP hD hS hl => W.widen hc hs (W.zret X.1.1 X.1.2.1 hr hn (fun t ht hW => ⟨⟨v, ρ, rfl, hq, by show va_P _ _ _ t.heap; rw [ht]; exact hP⟩, hS.F ht⟩) hS.2.2 hd hlocks)
theorem g_shrink (hs : gSub n ad cz 0 n' ad' cz') (kk : GW p l e R s m args below meth c Q nL D A n' ad' cz' ρ cells slots pc ls st) : GW p l e R s m args below meth c Q nL D A n ad cz ρ cells slots pc ls st := fun H locs la hP hD hS hl => kk H locs la (by have h := gP_sub hs hP; rw [gOff0] at h; exact h) (gD_of (gInj_sub hs (gD_inj hD)) (fun j hj => by rw [(hs.2 j hj).1]; exact gD_in hD (by have := hs.1; omega))) hS hl
theorem gNsw_ot : ∀ w ∈ gNsw, w.onTables = true := fun w hw => (List.all_eq_true.mp (show gNsw.all Cond.onTables = true by decide +kernel)) w hw
theorem g_throw (X : gX p m c cc nL s args Ts own D cy A) (hE : gEnv s A) (hl0 : l.stackTraces = false) {Qc : Array Value → State → Outcome → State → Prop} {xp : String → Prop} {cls text : String} {names : List String} {ik is ic : Nat} (hcls : Bundle.fit cls = true) (hnames : ∀ n ∈ names, Bundle.fit n = true) (hk : Cond.classLink own ik cls ∈ wAll) (hini : Cond.initialized cls ∈ wAll) (hstr : (own, is, text) ∈ gStr) (hat : ∀ w ∈ vx_atS own ic cls names, w ∈ wAll ∨ w ∈ gNsw) (hgood : ∀ w ∈ Cond.classLink own ik cls :: Cond.initialized cls :: vx_atS own ic cls names, vx_ot w = true)
    (d0 : decode cc pc = .ok (.new ik, 3)) (d3 : decode cc (pc + 3) = .ok (.dup, 1)) (d4 : decode cc (pc + 4) = .ok (.ldc is, 2)) (d6 : decode cc (pc + 6) = .ok (.invokespecial ic, 3)) (d9 : decode cc (pc + 9) = .ok (.athrow, 1)) (hout : ∀ x ∈ c.exceptionTable.toList, False)
    (hR : names.length + 3 < R.frames ∧ (rest.map fun v => v.category).sum + (13 * (names.length + 1) + 43) ≤ R.locals ∧ cells + 1 ≤ R.cells ∧ slots + 6 ≤ R.slots) (hlocks : meth.locks = false) (hx : xp cls) (hc : cells + 1 ≤ mc) (hs : slots + 6 ≤ ms) : GW p l e R s m args below meth c (vx_MQ below Qc (gXC D n ad cz ρ xp A) args s mc ms A) nL D A n ad cz ρ cells slots pc ls rest := fun H locs la hP hD hS hl => by
  obtain ⟨sa, hsa⟩ := hE.2.2 _ hstr
  have hts := X.1.2.2.2.2
  have hat' : ∀ w ∈ vx_atS own ic cls names, w.before args s = true := fun w hw => by
    rcases hat w hw with h | h
    · exact hts _ (X.2.2.2.1 _ h)
    · exact va_Nw.use (gNsw_ot w h) (X.2.2.2.2 w h)
  exact vx_throwS X.1.1 X.1.2.1 hl0 X.1.2.2.2.1 hcls hnames (hts _ (X.2.2.2.1 _ hk)) (hts _ (X.2.2.2.1 _ hini)) hsa hat' hgood hE.1 hE.2.1 hS (hl.1.trans X.1.2.2.1.symm) d0 d3 d4 d6 d9 (fun x h => absurd (hout x h) id) hR.1 hR.2.1 hR.2.2.1 hR.2.2.2 hlocks (fun t hvm hz hk => ⟨(), trivial, ⟨hx, hP.kept (fun k q hq => hk _ (hP k q hq).lt)⟩, ⟨Nat.le_trans hS.1 hz, fun q h1 h2 => (hk q (Nat.lt_of_lt_of_le h1 hS.1)).trans (hS.2.1 q h1 h2)⟩⟩) hS.2.2 hc hs
/-- what a callee throws goes on to the caller -/
theorem g_out (ht9 : ∀ x ∈ c.exceptionTable.toList, False) (hlocks : meth.locks = false) {Qc : Array Value → State → Outcome → State → Prop} {xp xp' : String → Prop} (himp : ∀ E, xp' E → xp E) (hc : cells ≤ mc) (hs : slots ≤ ms) : ∀ (E : String) (ce : Cell) (q9 : Addr) (H1 : Heap) (locs1 : List Loc) (la : Array Slot), xp' E → va_P D vwCl (gWl n ad cz ρ) H1 → va_D A (gWl n ad cz ρ) → va_S A s.heap H1 locs1 → lv_has la nL ls → H1[q9]? = some ce → ce.vm = .none → s.vm.findClass E = some ce.cls → vx_W p l e R s m args below meth c H1 locs1 cells slots (vx_MQ below Qc (gXC D n ad cz ρ xp A) args s mc ms A) (F0 m pc la rest) q9 := fun E ce q9 H1 locs1 la hxE hP hD hS hl hce hcv hcl => vx_out (fun x hx => absurd (ht9 x hx) id) hlocks hce hcv hcl (fun t ht hvm => ⟨(), trivial, ⟨himp E hxE, by rw [ht]; exact hP⟩, hS.F ht⟩) hS.2.2 hc hs
theorem gMI_of {post : Int32 → (Nat → Nat → Int32) → Prop} {argv : List Value} (own : String) (hown : y.cls = own) (hy : plainFor y = true) (hlen : (lg_sl argv).length ≤ nL) (hls : lv_args 0 argv = ls) (body : ∀ (p : Program) (e : Env) (s : State) (m : MethodId) (args : Array Value) (below : List Frame) (meth : Method) (c : Code) (A : Nat → Prop), gX p m c cc nL s args (Cond.code y cc nL ret :: wAll) own D cy A → meth.sig.returnType = ret → meth.locks = false → meth.name = y.name → GW p l e rm s m args below meth c (MQ below (va_Qi post (gB D n ad cz) A) args s mc ms A) nL D A n ad cz ρ 0 0 0 ls []) : gMI l y cc nL ret rm D cy n ad cz argv ρ post mc ms := by
  intro sz
  refine va_MetF (cc := cc) (maxL := nL) (ret := ret) hy rfl ?_
  intro p e s m args below meth c s₁ B hml hv
  obtain ⟨rfl, hsz, hP, hK, hi, hN⟩ := hv
  have hts := atoms_spec (ws := Cond.code y cc nL ret :: wAll) B.pre
  have hfc := findClass_of_methodNamed B.named
  rw [hown] at hfc
  have hl := lv_entry argv (n := nL) hlen
  rw [lg_entry_eq]
  rw [hls] at hl
  subst hsz
  exact body p e s m _ below meth c (gA n ad s.heap.size) ⟨⟨B.exec, B.bytes, hml, hfc, hts⟩, hK, fun q h => Or.inr h, fun w h => List.mem_cons_of_mem _ h, hN⟩ B.returns B.notSynchronized (name_of_methodNamed B.named B.method).1 s.heap [] _ hP (gD_of hi (fun k hk => Or.inl ⟨k, hk, rfl⟩)) va_S.rf hl
theorem gXI_of {post : Int32 → (Nat → Nat → Int32) → Prop} {xp : String → Prop} {argv : List Value} (own : String) (hown : y.cls = own) (hy : plainName y.cls = true) (hlen : (lg_sl argv).length ≤ nL) (hls : lv_args 0 argv = ls) (body : ∀ (p : Program) (e : Env) (s : State) (m : MethodId) (args : Array Value) (below : List Frame) (meth : Method) (c : Code) (A : Nat → Prop), gX p m c cc nL s args (Cond.code y cc nL ret :: wAll) own D cy A → gEnv s A → (∀ x ∈ c.exceptionTable.toList, False) → meth.sig.returnType = ret → meth.locks = false → GW p l e rm s m args below meth c (vx_MQ below (va_Qi post (gB D n ad cz) A) (gXC D n ad cz ρ xp A) args s mc ms A) nL D A n ad cz ρ 0 0 0 ls []) : gXI l y cc nL ret rm D cy n ad cz argv ρ post xp mc ms := by
  intro sz
  refine vx_ofW (cc := cc) (maxL := nL) (ret := ret) hy rfl ?_
  intro p e s m args below meth c s₁ B hml ht hv
  obtain ⟨rfl, hsz, hP, hK, hi, hN, hE⟩ := hv
  have hts := atoms_spec (ws := Cond.code y cc nL ret :: wAll) B.pre
  have hfc := findClass_of_methodNamed B.named
  rw [hown] at hfc
  have hl := lv_entry argv (n := nL) hlen
  rw [lg_entry_eq]
  rw [hls] at hl
  subst hsz
  exact body p e s m _ below meth c (gA n ad s.heap.size) ⟨⟨B.exec, B.bytes, hml, hfc, hts⟩, hK, fun q h => Or.inr h, fun w h => List.mem_cons_of_mem _ h, hN⟩ hE ht B.returns B.notSynchronized s.heap [] _ hP (gD_of hi (fun k hk => Or.inl ⟨k, hk, rfl⟩)) va_S.rf hl
theorem gMV_of {post : (Nat → Nat → Int32) → Prop} {argv : List Value} (own : String) (hown : y.cls = own) (hy : plainFor y = true) (hlen : (lg_sl argv).length ≤ nL) (hls : lv_args 0 argv = ls) (body : ∀ (p : Program) (e : Env) (s : State) (m : MethodId) (args : Array Value) (below : List Frame) (meth : Method) (c : Code) (A : Nat → Prop), gX p m c cc nL s args (Cond.code y cc nL ret :: wAll) own D cy A → meth.sig.returnType = ret → meth.locks = false → meth.name = y.name → GW p l e rm s m args below meth c (MQ below (va_Qv post (gB D n ad cz) A) args s mc ms A) nL D A n ad cz ρ 0 0 0 ls []) : gMV l y cc nL ret rm D cy n ad cz argv ρ post mc ms := by
  intro sz
  refine va_MetF (cc := cc) (maxL := nL) (ret := ret) hy rfl ?_
  intro p e s m args below meth c s₁ B hml hv
  obtain ⟨rfl, hsz, hP, hK, hi, hN⟩ := hv
  have hts := atoms_spec (ws := Cond.code y cc nL ret :: wAll) B.pre
  have hfc := findClass_of_methodNamed B.named
  rw [hown] at hfc
  have hl := lv_entry argv (n := nL) hlen
  rw [lg_entry_eq]
  rw [hls] at hl
  subst hsz
  exact body p e s m _ below meth c (gA n ad s.heap.size) ⟨⟨B.exec, B.bytes, hml, hfc, hts⟩, hK, fun q h => Or.inr h, fun w h => List.mem_cons_of_mem _ h, hN⟩ B.returns B.notSynchronized (name_of_methodNamed B.named B.method).1 s.heap [] _ hP (gD_of hi (fun k hk => Or.inl ⟨k, hk, rfl⟩)) va_S.rf hl
theorem gXV_of {post : (Nat → Nat → Int32) → Prop} {xp : String → Prop} {argv : List Value} (own : String) (hown : y.cls = own) (hy : plainName y.cls = true) (hlen : (lg_sl argv).length ≤ nL) (hls : lv_args 0 argv = ls) (body : ∀ (p : Program) (e : Env) (s : State) (m : MethodId) (args : Array Value) (below : List Frame) (meth : Method) (c : Code) (A : Nat → Prop), gX p m c cc nL s args (Cond.code y cc nL ret :: wAll) own D cy A → gEnv s A → (∀ x ∈ c.exceptionTable.toList, False) → meth.sig.returnType = ret → meth.locks = false → GW p l e rm s m args below meth c (vx_MQ below (va_Qv post (gB D n ad cz) A) (gXC D n ad cz ρ xp A) args s mc ms A) nL D A n ad cz ρ 0 0 0 ls []) : gXV l y cc nL ret rm D cy n ad cz argv ρ post xp mc ms := by
  intro sz
  refine vx_ofW (cc := cc) (maxL := nL) (ret := ret) hy rfl ?_
  intro p e s m args below meth c s₁ B hml ht hv
  obtain ⟨rfl, hsz, hP, hK, hi, hN, hE⟩ := hv
  have hts := atoms_spec (ws := Cond.code y cc nL ret :: wAll) B.pre
  have hfc := findClass_of_methodNamed B.named
  rw [hown] at hfc
  have hl := lv_entry argv (n := nL) hlen
  rw [lg_entry_eq]
  rw [hls] at hl
  subst hsz
  exact body p e s m _ below meth c (gA n ad s.heap.size) ⟨⟨B.exec, B.bytes, hml, hfc, hts⟩, hK, fun q h => Or.inr h, fun w h => List.mem_cons_of_mem _ h, hN⟩ hE ht B.returns B.notSynchronized s.heap [] _ hP (gD_of hi (fun k hk => Or.inl ⟨k, hk, rfl⟩)) va_S.rf hl
theorem gML_of {post : Int64 → (Nat → Nat → Int32) → Prop} {argv : List Value} (own : String) (hown : y.cls = own) (hy : plainFor y = true) (hlen : (lg_sl argv).length ≤ nL) (hls : lv_args 0 argv = ls) (body : ∀ (p : Program) (e : Env) (s : State) (m : MethodId) (args : Array Value) (below : List Frame) (meth : Method) (c : Code) (A : Nat → Prop), gX p m c cc nL s args (Cond.code y cc nL ret :: wAll) own D cy A → meth.sig.returnType = ret → meth.locks = false → meth.name = y.name → GW p l e rm s m args below meth c (MQ below (va_Ql post (gB D n ad cz) A) args s mc ms A) nL D A n ad cz ρ 0 0 0 ls []) : gML l y cc nL ret rm D cy n ad cz argv ρ post mc ms := by
  intro sz
  refine va_MetF (cc := cc) (maxL := nL) (ret := ret) hy rfl ?_
  intro p e s m args below meth c s₁ B hml hv
  obtain ⟨rfl, hsz, hP, hK, hi, hN⟩ := hv
  have hts := atoms_spec (ws := Cond.code y cc nL ret :: wAll) B.pre
  have hfc := findClass_of_methodNamed B.named
  rw [hown] at hfc
  have hl := lv_entry argv (n := nL) hlen
  rw [lg_entry_eq]
  rw [hls] at hl
  subst hsz
  exact body p e s m _ below meth c (gA n ad s.heap.size) ⟨⟨B.exec, B.bytes, hml, hfc, hts⟩, hK, fun q h => Or.inr h, fun w h => List.mem_cons_of_mem _ h, hN⟩ B.returns B.notSynchronized (name_of_methodNamed B.named B.method).1 s.heap [] _ hP (gD_of hi (fun k hk => Or.inl ⟨k, hk, rfl⟩)) va_S.rf hl
theorem gMD_of {post : UInt64 → (Nat → Nat → Int32) → Prop} {argv : List Value} (own : String) (hown : y.cls = own) (hy : plainFor y = true) (hlen : (lg_sl argv).length ≤ nL) (hls : lv_args 0 argv = ls) (body : ∀ (p : Program) (e : Env) (s : State) (m : MethodId) (args : Array Value) (below : List Frame) (meth : Method) (c : Code) (A : Nat → Prop), gX p m c cc nL s args (Cond.code y cc nL ret :: wAll) own D cy A → meth.sig.returnType = ret → meth.locks = false → meth.name = y.name → GW p l e rm s m args below meth c (MQ below (va_Qd post (gB D n ad cz) A) args s mc ms A) nL D A n ad cz ρ 0 0 0 ls []) : gMD l y cc nL ret rm D cy n ad cz argv ρ post mc ms := by
  intro sz
  refine va_MetF (cc := cc) (maxL := nL) (ret := ret) hy rfl ?_
  intro p e s m args below meth c s₁ B hml hv
  obtain ⟨rfl, hsz, hP, hK, hi, hN⟩ := hv
  have hts := atoms_spec (ws := Cond.code y cc nL ret :: wAll) B.pre
  have hfc := findClass_of_methodNamed B.named
  rw [hown] at hfc
  have hl := lv_entry argv (n := nL) hlen
  rw [lg_entry_eq]
  rw [hls] at hl
  subst hsz
  exact body p e s m _ below meth c (gA n ad s.heap.size) ⟨⟨B.exec, B.bytes, hml, hfc, hts⟩, hK, fun q h => Or.inr h, fun w h => List.mem_cons_of_mem _ h, hN⟩ B.returns B.notSynchronized (name_of_methodNamed B.named B.method).1 s.heap [] _ hP (gD_of hi (fun k hk => Or.inl ⟨k, hk, rfl⟩)) va_S.rf hl
end GMS
end
section
/-! The class's cells: 0 the organ; 1 and 6 the pipes and the trial (each with worn, off, cricket, played behind it); 11 tunes, 12 streets, 13 damp; from 14 on each tune with its notes and times; from 32 on each street with what it heard -/
def cC (ad : Nat → Nat) (cy : Nat → ClassId) (k : Nat) (r : Nat → Int32) : va_E :=
  if k = 0 then .inr (3, [.ref (ad 1), .ref (ad 6), .ref (ad 11), .ref (ad 12), .ref (ad 13), .int (r 5), .int (r 6), .int (r 7), .int (r 8), .int (r 9)])
  else if k = 1 ∨ k = 6 then .inr (0, [.ref (ad (k + 1)), .ref (ad (k + 2)), .ref (ad (k + 3)), .ref (ad (k + 4))])
  else if k = 2 ∨ k = 3 ∨ k = 7 ∨ k = 8 then .inl (cy 0, 12, .inl r)
  else if k = 4 ∨ k = 5 ∨ k = 9 ∨ k = 10 then .inl (cy 1, 12, .inl r)
  else if k = 11 then .inl (cy 2, 6, .inr (.inr (.inr (.inr (fun i => some (ad (14 + 3 * i)))))))
  else if k = 12 then .inl (cy 3, 8, .inr (.inr (.inr (.inr (fun i => some (ad (32 + 2 * i)))))))
  else if k = 13 then .inl (cy 0, 7, .inl r)
  else if k < 32 then (if (k - 14) % 3 = 0 then .inr (2, [.ref (ad (k + 1)), .ref (ad (k + 2)), .int (r 2)]) else if (k - 14) % 3 = 1 then .inl (cy 0, 16, .inl r) else .inl (cy 0, 12, .inl r))
  else if k % 2 = 0 then .inr (1, [.ref (ad (k + 1)), .int (r 1), .int (r 2), .int (r 3)])
  else .inl (cy 0, 6, .inl r)
def isP (b : Nat) : Prop := b = 1 ∨ b = 6
section LC
variable {ad : Nat → Nat} {cy : Nat → ClassId} {b t i : Nat}
theorem isP_lt (h : isP b) : b < 10 := by rcases h with rfl | rfl <;> decide
theorem lC_f_worn (h : isP b) : gFR (cC ad cy) ad b 0 0 (b + 1) := by rcases h with rfl | rfl <;> exact fun r => ⟨_, rfl, rfl⟩
theorem lC_worn (h : isP b) : gAI (cC ad cy) (cy 0) (b + 1) 12 := by rcases h with rfl | rfl <;> exact fun r => rfl
theorem lC_f_off (h : isP b) : gFR (cC ad cy) ad b 0 1 (b + 2) := by rcases h with rfl | rfl <;> exact fun r => ⟨_, rfl, rfl⟩
theorem lC_off (h : isP b) : gAI (cC ad cy) (cy 0) (b + 2) 12 := by rcases h with rfl | rfl <;> exact fun r => rfl
theorem lC_f_cri (h : isP b) : gFR (cC ad cy) ad b 0 2 (b + 3) := by rcases h with rfl | rfl <;> exact fun r => ⟨_, rfl, rfl⟩
theorem lC_cri (h : isP b) : gAI (cC ad cy) (cy 1) (b + 3) 12 := by rcases h with rfl | rfl <;> exact fun r => rfl
theorem lC_f_pla (h : isP b) : gFR (cC ad cy) ad b 0 3 (b + 4) := by rcases h with rfl | rfl <;> exact fun r => ⟨_, rfl, rfl⟩
theorem lC_pla (h : isP b) : gAI (cC ad cy) (cy 1) (b + 4) 12 := by rcases h with rfl | rfl <;> exact fun r => rfl
theorem lC_P (h : isP b) : gOb (cC ad cy) b 0 := by rcases h with rfl | rfl <;> exact fun r => ⟨_, rfl⟩
theorem lC_O : gOb (cC ad cy) 0 3 := fun r => ⟨_, rfl⟩
theorem lC_o_pipes : gFR (cC ad cy) ad 0 3 0 1 := fun r => ⟨_, rfl, rfl⟩
theorem lC_o_trial : gFR (cC ad cy) ad 0 3 1 6 := fun r => ⟨_, rfl, rfl⟩
theorem lC_o_tunes : gFR (cC ad cy) ad 0 3 2 11 := fun r => ⟨_, rfl, rfl⟩
theorem lC_o_streets : gFR (cC ad cy) ad 0 3 3 12 := fun r => ⟨_, rfl, rfl⟩
theorem lC_o_damp : gFR (cC ad cy) ad 0 3 4 13 := fun r => ⟨_, rfl, rfl⟩
theorem lC_o_tuneCount : gFI (cC ad cy) 0 3 5 := fun r => ⟨_, rfl, rfl, Nat.le_of_ble_eq_true rfl, fun v => rfl⟩
theorem lC_o_streetCount : gFI (cC ad cy) 0 3 6 := fun r => ⟨_, rfl, rfl, Nat.le_of_ble_eq_true rfl, fun v => rfl⟩
theorem lC_o_day : gFI (cC ad cy) 0 3 7 := fun r => ⟨_, rfl, rfl, Nat.le_of_ble_eq_true rfl, fun v => rfl⟩
theorem lC_o_coins : gFI (cC ad cy) 0 3 8 := fun r => ⟨_, rfl, rfl, Nat.le_of_ble_eq_true rfl, fun v => rfl⟩
theorem lC_o_fines : gFI (cC ad cy) 0 3 9 := fun r => ⟨_, rfl, rfl, Nat.le_of_ble_eq_true rfl, fun v => rfl⟩
theorem lC_tunes : gAR (cC ad cy) ad (cy 2) 11 6 (fun i => 14 + 3 * i) := fun r => ⟨_, rfl, fun i _ => rfl⟩
theorem lC_streets : gAR (cC ad cy) ad (cy 3) 12 8 (fun i => 32 + 2 * i) := fun r => ⟨_, rfl, fun i _ => rfl⟩
theorem lC_damp : gAI (cC ad cy) (cy 0) 13 7 := fun r => rfl
theorem lC_T (h : t < 6) : gOb (cC ad cy) (14 + 3 * t) 2 := by rcases (show t = 0 ∨ t = 1 ∨ t = 2 ∨ t = 3 ∨ t = 4 ∨ t = 5 by omega) with rfl | rfl | rfl | rfl | rfl | rfl <;> exact fun r => ⟨_, rfl⟩
theorem lC_f_notes (h : t < 6) : gFR (cC ad cy) ad (14 + 3 * t) 2 0 (15 + 3 * t) := by rcases (show t = 0 ∨ t = 1 ∨ t = 2 ∨ t = 3 ∨ t = 4 ∨ t = 5 by omega) with rfl | rfl | rfl | rfl | rfl | rfl <;> exact fun r => ⟨_, rfl, rfl⟩
theorem lC_f_times (h : t < 6) : gFR (cC ad cy) ad (14 + 3 * t) 2 1 (16 + 3 * t) := by rcases (show t = 0 ∨ t = 1 ∨ t = 2 ∨ t = 3 ∨ t = 4 ∨ t = 5 by omega) with rfl | rfl | rfl | rfl | rfl | rfl <;> exact fun r => ⟨_, rfl, rfl⟩
theorem lC_f_length (h : t < 6) : gFI (cC ad cy) (14 + 3 * t) 2 2 := by rcases (show t = 0 ∨ t = 1 ∨ t = 2 ∨ t = 3 ∨ t = 4 ∨ t = 5 by omega) with rfl | rfl | rfl | rfl | rfl | rfl <;> exact fun r => ⟨_, rfl, rfl, Nat.le_of_ble_eq_true rfl, fun v => rfl⟩
theorem lC_notes (h : t < 6) : gAI (cC ad cy) (cy 0) (15 + 3 * t) 16 := by rcases (show t = 0 ∨ t = 1 ∨ t = 2 ∨ t = 3 ∨ t = 4 ∨ t = 5 by omega) with rfl | rfl | rfl | rfl | rfl | rfl <;> exact fun r => rfl
theorem lC_times (h : t < 6) : gAI (cC ad cy) (cy 0) (16 + 3 * t) 12 := by rcases (show t = 0 ∨ t = 1 ∨ t = 2 ∨ t = 3 ∨ t = 4 ∨ t = 5 by omega) with rfl | rfl | rfl | rfl | rfl | rfl <;> exact fun r => rfl
theorem lC_S (h : t < 8) : gOb (cC ad cy) (32 + 2 * t) 1 := by rcases (show t = 0 ∨ t = 1 ∨ t = 2 ∨ t = 3 ∨ t = 4 ∨ t = 5 ∨ t = 6 ∨ t = 7 by omega) with rfl | rfl | rfl | rfl | rfl | rfl | rfl | rfl <;> exact fun r => ⟨_, rfl⟩
theorem lC_f_heard (h : t < 8) : gFR (cC ad cy) ad (32 + 2 * t) 1 0 (33 + 2 * t) := by rcases (show t = 0 ∨ t = 1 ∨ t = 2 ∨ t = 3 ∨ t = 4 ∨ t = 5 ∨ t = 6 ∨ t = 7 by omega) with rfl | rfl | rfl | rfl | rfl | rfl | rfl | rfl <;> exact fun r => ⟨_, rfl, rfl⟩
theorem lC_f_listeners (h : t < 8) : gFI (cC ad cy) (32 + 2 * t) 1 1 := by rcases (show t = 0 ∨ t = 1 ∨ t = 2 ∨ t = 3 ∨ t = 4 ∨ t = 5 ∨ t = 6 ∨ t = 7 by omega) with rfl | rfl | rfl | rfl | rfl | rfl | rfl | rfl <;> exact fun r => ⟨_, rfl, rfl, Nat.le_of_ble_eq_true rfl, fun v => rfl⟩
theorem lC_f_permits (h : t < 8) : gFI (cC ad cy) (32 + 2 * t) 1 2 := by rcases (show t = 0 ∨ t = 1 ∨ t = 2 ∨ t = 3 ∨ t = 4 ∨ t = 5 ∨ t = 6 ∨ t = 7 by omega) with rfl | rfl | rfl | rfl | rfl | rfl | rfl | rfl <;> exact fun r => ⟨_, rfl, rfl, Nat.le_of_ble_eq_true rfl, fun v => rfl⟩
theorem lC_f_paid (h : t < 8) : gFI (cC ad cy) (32 + 2 * t) 1 3 := by rcases (show t = 0 ∨ t = 1 ∨ t = 2 ∨ t = 3 ∨ t = 4 ∨ t = 5 ∨ t = 6 ∨ t = 7 by omega) with rfl | rfl | rfl | rfl | rfl | rfl | rfl | rfl <;> exact fun r => ⟨_, rfl, rfl, Nat.le_of_ble_eq_true rfl, fun v => rfl⟩
theorem lC_heard (h : t < 8) : gAI (cC ad cy) (cy 0) (33 + 2 * t) 6 := by rcases (show t = 0 ∨ t = 1 ∨ t = 2 ∨ t = 3 ∨ t = 4 ∨ t = 5 ∨ t = 6 ∨ t = 7 by omega) with rfl | rfl | rfl | rfl | rfl | rfl | rfl | rfl <;> exact fun r => rfl
end LC
/-! The model's cells: 0 the model; 1 many, 2 notes, 3 listeners, 4 permits, 5 paid, 6 played, 7 damp; 8 and 13 its pipes (each with worn, off, cricket, sang behind it) -/
def cM (ad : Nat → Nat) (cy : Nat → ClassId) (k : Nat) (r : Nat → Int32) : va_E :=
  if k = 0 then .inr (5, [.int (r 0), .int (r 1), .ref (ad 1), .ref (ad 2), .int (r 4), .ref (ad 3), .ref (ad 4), .ref (ad 5), .ref (ad 6), .ref (ad 7), .int (r 10), .int (r 11), .ref (ad 8), .ref (ad 13)])
  else if k = 8 ∨ k = 13 then .inr (4, [.int (r 0), .ref (ad (k + 1)), .ref (ad (k + 2)), .ref (ad (k + 3)), .ref (ad (k + 4))])
  else if k = 1 then .inl (cy 0, 6, .inl r)
  else if k = 2 then .inl (cy 0, 96, .inl r)
  else if k = 3 ∨ k = 4 ∨ k = 5 then .inl (cy 0, 8, .inl r)
  else if k = 6 then .inl (cy 0, 48, .inl r)
  else if k = 7 then .inl (cy 0, 7, .inl r)
  else .inl (cy 0, 12, .inl r)
def isQ (b : Nat) : Prop := b = 8 ∨ b = 13
section LM
variable {ad : Nat → Nat} {cy : Nat → ClassId} {b : Nat}
theorem isQ_lt (h : isQ b) : b < 14 := by rcases h with rfl | rfl <;> decide
theorem lM_P (h : isQ b) : gOb (cM ad cy) b 4 := by rcases h with rfl | rfl <;> exact fun r => ⟨_, rfl⟩
theorem lM_f_day (h : isQ b) : gFI (cM ad cy) b 4 0 := by rcases h with rfl | rfl <;> exact fun r => ⟨_, rfl, rfl, Nat.le_of_ble_eq_true rfl, fun v => rfl⟩
theorem lM_O : gOb (cM ad cy) 0 5 := fun r => ⟨_, rfl⟩
theorem lM_f_worn (h : isQ b) : gFR (cM ad cy) ad b 4 1 (b + 1) := by rcases h with rfl | rfl <;> exact fun r => ⟨_, rfl, rfl⟩
theorem lM_worn (h : isQ b) : gAI (cM ad cy) (cy 0) (b + 1) 12 := by rcases h with rfl | rfl <;> exact fun r => rfl
theorem lM_f_off (h : isQ b) : gFR (cM ad cy) ad b 4 2 (b + 2) := by rcases h with rfl | rfl <;> exact fun r => ⟨_, rfl, rfl⟩
theorem lM_off (h : isQ b) : gAI (cM ad cy) (cy 0) (b + 2) 12 := by rcases h with rfl | rfl <;> exact fun r => rfl
theorem lM_f_cri (h : isQ b) : gFR (cM ad cy) ad b 4 3 (b + 3) := by rcases h with rfl | rfl <;> exact fun r => ⟨_, rfl, rfl⟩
theorem lM_cri (h : isQ b) : gAI (cM ad cy) (cy 0) (b + 3) 12 := by rcases h with rfl | rfl <;> exact fun r => rfl
theorem lM_f_sang (h : isQ b) : gFR (cM ad cy) ad b 4 4 (b + 4) := by rcases h with rfl | rfl <;> exact fun r => ⟨_, rfl, rfl⟩
theorem lM_sang (h : isQ b) : gAI (cM ad cy) (cy 0) (b + 4) 12 := by rcases h with rfl | rfl <;> exact fun r => rfl
theorem lM_o_thrown : gFI (cM ad cy) 0 5 0 := fun r => ⟨_, rfl, rfl, Nat.le_of_ble_eq_true rfl, fun v => rfl⟩
theorem lM_o_tunes : gFI (cM ad cy) 0 5 1 := fun r => ⟨_, rfl, rfl, Nat.le_of_ble_eq_true rfl, fun v => rfl⟩
theorem lM_o_streets : gFI (cM ad cy) 0 5 4 := fun r => ⟨_, rfl, rfl, Nat.le_of_ble_eq_true rfl, fun v => rfl⟩
theorem lM_o_coins : gFI (cM ad cy) 0 5 10 := fun r => ⟨_, rfl, rfl, Nat.le_of_ble_eq_true rfl, fun v => rfl⟩
theorem lM_o_fines : gFI (cM ad cy) 0 5 11 := fun r => ⟨_, rfl, rfl, Nat.le_of_ble_eq_true rfl, fun v => rfl⟩
theorem lM_o_many : gFR (cM ad cy) ad 0 5 2 1 := fun r => ⟨_, rfl, rfl⟩
theorem lM_many : gAI (cM ad cy) (cy 0) 1 6 := fun r => rfl
theorem lM_o_notes : gFR (cM ad cy) ad 0 5 3 2 := fun r => ⟨_, rfl, rfl⟩
theorem lM_notes : gAI (cM ad cy) (cy 0) 2 96 := fun r => rfl
theorem lM_o_listeners : gFR (cM ad cy) ad 0 5 5 3 := fun r => ⟨_, rfl, rfl⟩
theorem lM_listeners : gAI (cM ad cy) (cy 0) 3 8 := fun r => rfl
theorem lM_o_permits : gFR (cM ad cy) ad 0 5 6 4 := fun r => ⟨_, rfl, rfl⟩
theorem lM_permits : gAI (cM ad cy) (cy 0) 4 8 := fun r => rfl
theorem lM_o_paid : gFR (cM ad cy) ad 0 5 7 5 := fun r => ⟨_, rfl, rfl⟩
theorem lM_paid : gAI (cM ad cy) (cy 0) 5 8 := fun r => rfl
theorem lM_o_played : gFR (cM ad cy) ad 0 5 8 6 := fun r => ⟨_, rfl, rfl⟩
theorem lM_played : gAI (cM ad cy) (cy 0) 6 48 := fun r => rfl
theorem lM_o_damp : gFR (cM ad cy) ad 0 5 9 7 := fun r => ⟨_, rfl, rfl⟩
theorem lM_damp : gAI (cM ad cy) (cy 0) 7 7 := fun r => rfl
theorem lM_o_s : gFR (cM ad cy) ad 0 5 12 8 := fun r => ⟨_, rfl, rfl⟩
theorem lM_o_ahead : gFR (cM ad cy) ad 0 5 13 13 := fun r => ⟨_, rfl, rfl⟩
end LM
end
section
section GR
variable {p : Program} {l : Launch} {e : Env} {R : Room} {s : State} {m : MethodId} {args : Array Value} {below : List Frame} {meth : Method} {c : Code} {Q : State → Prop}
variable {cc : ByteArray} {nL : Nat} {Ts : List Cond} {own : String} {D : va_G} {cy : Nat → ClassId} {A : Nat → Prop}
variable {n : Nat} {ad : Nat → Nat} {cz : Nat → (Nat → Int32) → va_E} {ρ : Nat → Nat → Int32} {cells slots pc : Nat} {ls ls' : List (Nat × Value)} {st rest : List Value}
/-- a loop whose state is told by the number of rounds -/
theorem g_loop (I : Nat → Prop) (f : Nat → Nat → Nat → Int32) (lf : Nat → List (Nat × Value)) (cf sf : Nat → Nat) (N i0 : Nat) (h0 : I i0) (hi0 : i0 ≤ N) (hl : ls = lf i0) (hr : ρ = f i0) (hc : cells = cf i0) (hs : slots = sf i0)
    (step : ∀ i : Nat, i0 ≤ i → i ≤ N → I i → (i < N → I (i + 1) → GW p l e R s m args below meth c Q nL D A n ad cz (f (i + 1)) (cf (i + 1)) (sf (i + 1)) pc (lf (i + 1)) st) → GW p l e R s m args below meth c Q nL D A n ad cz (f i) (cf i) (sf i) pc (lf i) st) : GW p l e R s m args below meth c Q nL D A n ad cz ρ cells slots pc ls st := by
  subst hl hr hc hs
  have key : ∀ (k i : Nat), i0 ≤ i → i + k = N → I i → GW p l e R s m args below meth c Q nL D A n ad cz (f i) (cf i) (sf i) pc (lf i) st := by
    intro k
    induction k with
    | zero => intro i hi0 hi hI; exact step i hi0 (by omega) hI (fun h => absurd h (by omega))
    | succ k ih => intro i hi0 hi hI; exact step i hi0 (by omega) hI (fun h hI2 => ih (i + 1) (by omega) (by omega) hI2)
  exact key (N - i0) i0 (Nat.le_refl _) (by omega) h0
theorem g_eqv {ρ' : Nat → Nat → Int32} {cells' slots' : Nat} (kk : GW p l e R s m args below meth c Q nL D A n ad cz ρ' cells' slots' pc ls' st) (hl : ls = ls') (hr : ρ = ρ') (hc : cells = cells') (hs : slots = slots') : GW p l e R s m args below meth c Q nL D A n ad cz ρ cells slots pc ls st := by
  subst hl hr hc hs; exact kk
theorem g_lookup (X : gX p m c cc nL s args Ts own D cy A) {dflt : Int} {ps : Array (Int × Int)} {len : Nat} {x : Int32} (off : Int) (tgt : Nat) (hd : decode cc pc = .ok (.lookupswitch dflt ps, len)) (hp : (ps.toList.zip (ps.toList.drop 1)).all (fun (a, next) => a.1 < next.1) = true) (ho : Op.lookupswitch.offset ps.toList dflt x.toInt = off) (ht : (pc : Int) + off = (tgt : Int)) (kk : GW p l e R s m args below meth c Q nL D A n ad cz ρ cells slots tgt ls st) : GW p l e R s m args below meth c Q nL D A n ad cz ρ cells slots pc ls (.int x :: st) := fun H locs la hP hD hS hl => lv_lookup X.1.1 X.1.2.1 hd hp ho ht (kk H locs la hP hD hS hl)
theorem g_ialdN (X : gX p m c cc nL s args Ts own D cy A) (k : Nat) (i : Nat) {len : Nat} (hk : k < n) (hF : gAI cz (cy 0) k len) (hin : i < len) (h31 : len < 2 ^ 31) (hd : decode cc pc = .ok (.iaload, 1)) (kk : GW p l e R s m args below meth c Q nL D A n ad cz ρ cells slots (pc + 1) ls (.int (ρ k i) :: st)) : GW p l e R s m args below meth c Q nL D A n ad cz ρ cells slots pc ls (.int (nI i) :: .ref (ad k) :: st) := g_iald X k hk hF (vp_in_nI hin h31) hd (by rw [nI_clamp (by omega)]; exact kk)
theorem g_zaldN (X : gX p m c cc nL s args Ts own D cy A) (k : Nat) (i : Nat) {len : Nat} (hk : k < n) (hF : gAI cz (cy 1) k len) (hin : i < len) (h31 : len < 2 ^ 31) (hd : decode cc pc = .ok (.baload, 1)) (kk : GW p l e R s m args below meth c Q nL D A n ad cz ρ cells slots (pc + 1) ls (.int (ρ k i) :: st)) : GW p l e R s m args below meth c Q nL D A n ad cz ρ cells slots pc ls (.int (nI i) :: .ref (ad k) :: st) := g_zald X k hk hF (vp_in_nI hin h31) hd (by rw [nI_clamp (by omega)]; exact kk)
theorem g_iastN (X : gX p m c cc nL s args Ts own D cy A) {x : Int32} (k : Nat) (i : Nat) {len : Nat} (hk : k < n) (hF : gAI cz (cy 0) k len) (hin : i < len) (h31 : len < 2 ^ 31) (hd : decode cc pc = .ok (.iastore, 1)) (kk : ∀ ρ1, ρ1 = up2 ρ k i x → GW p l e R s m args below meth c Q nL D A n ad cz ρ1 cells slots (pc + 1) ls st) : GW p l e R s m args below meth c Q nL D A n ad cz ρ cells slots pc ls (.int x :: .int (nI i) :: .ref (ad k) :: st) := g_iast X k hk hF (vp_in_nI hin h31) hd (fun ρ1 h => kk ρ1 (by rw [h, nI_clamp (by omega)]))
theorem g_zastN (X : gX p m c cc nL s args Ts own D cy A) {x : Int32} (k : Nat) (i : Nat) {len : Nat} (hk : k < n) (hF : gAI cz (cy 1) k len) (hx : vp_nar .boolean x = x) (hin : i < len) (h31 : len < 2 ^ 31) (hd : decode cc pc = .ok (.bastore, 1)) (kk : ∀ ρ1, ρ1 = up2 ρ k i x → GW p l e R s m args below meth c Q nL D A n ad cz ρ1 cells slots (pc + 1) ls st) : GW p l e R s m args below meth c Q nL D A n ad cz ρ cells slots pc ls (.int x :: .int (nI i) :: .ref (ad k) :: st) := g_zast X k hk hF hx (vp_in_nI hin h31) hd (fun ρ1 h => kk ρ1 (by rw [h, nI_clamp (by omega)]))
theorem g_aaldN (X : gX p m c cc nL s args Ts own D cy A) (k : Nat) (i : Nat) (t0 : Nat) {len : Nat} {C : String} {tgt : Nat → Nat} (hk : k < n) {cA : ClassId} (hF : gAR cz ad cA k len tgt) (ht : (gT cy)[t0]? = some (cA, .object C)) (hin : i < len) (h31 : len < 2 ^ 31) (hd : decode cc pc = .ok (.aaload, 1)) (kk : GW p l e R s m args below meth c Q nL D A n ad cz ρ cells slots (pc + 1) ls (.ref (ad (tgt i)) :: st)) : GW p l e R s m args below meth c Q nL D A n ad cz ρ cells slots pc ls (.int (nI i) :: .ref (ad k) :: st) := g_aald X k hk hF ht (vp_in_nI hin h31) hd (by rw [nI_clamp (by omega)]; exact kk)
theorem g_iincN (X : gX p m c cc nL s args Ts own D cy A) (a i : Nat) (ls' : List (Nat × Value)) (place : Nat) (hd : decode cc pc = .ok (.iinc i 1, 3)) (hq : ls[place]? = some (i, .int (nI a))) (hn : i < nL) (hf : (i, Value.int (nI (a + 1))) :: ls.filter (fun q => !(q.1 == i) && !(q.1 + 1 == i && q.2.category == 2)) = ls') (kk : GW p l e R s m args below meth c Q nL D A n ad cz ρ cells slots (pc + 3) ls' st) : GW p l e R s m args below meth c Q nL D A n ad cz ρ cells slots pc ls st := g_iinc X (nI (a + 1)) ls' place hd hq (nI_1 a) hn hf kk
theorem g_icmp_eqN (X : gX p m c cc nL s args Ts own D cy A) (a b : Nat) {off : Int} (tgt : Nat) (ha : a < 2 ^ 31) (hb : b < 2 ^ 31) (hd : decode cc pc = .ok (.if_icmp .eq off, 3)) (ht : (pc : Int) + off = (tgt : Int)) (kt : a = b → GW p l e R s m args below meth c Q nL D A n ad cz ρ cells slots tgt ls st) (kf : a ≠ b → GW p l e R s m args below meth c Q nL D A n ad cz ρ cells slots (pc + 3) ls st) : GW p l e R s m args below meth c Q nL D A n ad cz ρ cells slots pc ls (.int (nI b) :: .int (nI a) :: st) := g_icmp_eq X tgt hd ht (fun h => kt ((nI_eq ha hb).mp h)) (fun h => kf (fun q => h ((nI_eq ha hb).mpr q)))
theorem g_icmp_neN (X : gX p m c cc nL s args Ts own D cy A) (a b : Nat) {off : Int} (tgt : Nat) (ha : a < 2 ^ 31) (hb : b < 2 ^ 31) (hd : decode cc pc = .ok (.if_icmp .ne off, 3)) (ht : (pc : Int) + off = (tgt : Int)) (kt : a ≠ b → GW p l e R s m args below meth c Q nL D A n ad cz ρ cells slots tgt ls st) (kf : a = b → GW p l e R s m args below meth c Q nL D A n ad cz ρ cells slots (pc + 3) ls st) : GW p l e R s m args below meth c Q nL D A n ad cz ρ cells slots pc ls (.int (nI b) :: .int (nI a) :: st) := g_icmp_ne X tgt hd ht (fun h => kt (fun q => h ((nI_eq ha hb).mpr q))) (fun h => kf ((nI_eq ha hb).mp h))
theorem g_icmp_ltN (X : gX p m c cc nL s args Ts own D cy A) (a b : Nat) {off : Int} (tgt : Nat) (ha : a < 2 ^ 31) (hb : b < 2 ^ 31) (hd : decode cc pc = .ok (.if_icmp .lt off, 3)) (ht : (pc : Int) + off = (tgt : Int)) (kt : a < b → GW p l e R s m args below meth c Q nL D A n ad cz ρ cells slots tgt ls st) (kf : b ≤ a → GW p l e R s m args below meth c Q nL D A n ad cz ρ cells slots (pc + 3) ls st) : GW p l e R s m args below meth c Q nL D A n ad cz ρ cells slots pc ls (.int (nI b) :: .int (nI a) :: st) := g_icmp_lt X tgt hd ht (fun h => kt ((nI_ltI ha hb).mp h)) (fun h => kf (Nat.le_of_not_lt (fun q => h ((nI_ltI ha hb).mpr q))))
theorem g_icmp_geN (X : gX p m c cc nL s args Ts own D cy A) (a b : Nat) {off : Int} (tgt : Nat) (ha : a < 2 ^ 31) (hb : b < 2 ^ 31) (hd : decode cc pc = .ok (.if_icmp .ge off, 3)) (ht : (pc : Int) + off = (tgt : Int)) (kt : b ≤ a → GW p l e R s m args below meth c Q nL D A n ad cz ρ cells slots tgt ls st) (kf : a < b → GW p l e R s m args below meth c Q nL D A n ad cz ρ cells slots (pc + 3) ls st) : GW p l e R s m args below meth c Q nL D A n ad cz ρ cells slots pc ls (.int (nI b) :: .int (nI a) :: st) := g_icmp_ge X tgt hd ht (fun h => kt ((nI_leI hb ha).mp h)) (fun h => kf (Nat.lt_of_not_le (fun q => h ((nI_leI hb ha).mpr q))))
theorem g_icmp_gtN (X : gX p m c cc nL s args Ts own D cy A) (a b : Nat) {off : Int} (tgt : Nat) (ha : a < 2 ^ 31) (hb : b < 2 ^ 31) (hd : decode cc pc = .ok (.if_icmp .gt off, 3)) (ht : (pc : Int) + off = (tgt : Int)) (kt : b < a → GW p l e R s m args below meth c Q nL D A n ad cz ρ cells slots tgt ls st) (kf : a ≤ b → GW p l e R s m args below meth c Q nL D A n ad cz ρ cells slots (pc + 3) ls st) : GW p l e R s m args below meth c Q nL D A n ad cz ρ cells slots pc ls (.int (nI b) :: .int (nI a) :: st) := g_icmp_gt X tgt hd ht (fun h => kt ((nI_ltI hb ha).mp h)) (fun h => kf (Nat.le_of_not_lt (fun q => h ((nI_ltI hb ha).mpr q))))
theorem g_icmp_leN (X : gX p m c cc nL s args Ts own D cy A) (a b : Nat) {off : Int} (tgt : Nat) (ha : a < 2 ^ 31) (hb : b < 2 ^ 31) (hd : decode cc pc = .ok (.if_icmp .le off, 3)) (ht : (pc : Int) + off = (tgt : Int)) (kt : a ≤ b → GW p l e R s m args below meth c Q nL D A n ad cz ρ cells slots tgt ls st) (kf : b < a → GW p l e R s m args below meth c Q nL D A n ad cz ρ cells slots (pc + 3) ls st) : GW p l e R s m args below meth c Q nL D A n ad cz ρ cells slots pc ls (.int (nI b) :: .int (nI a) :: st) := g_icmp_le X tgt hd ht (fun h => kt ((nI_leI ha hb).mp h)) (fun h => kf (Nat.lt_of_not_le (fun q => h ((nI_leI ha hb).mpr q))))
theorem g_ifz (X : gX p m c cc nL s args Ts own D cy A) (b : Nat) (hz : nI b = 0 ↔ b = 0) {off : Int} (tgt : Nat) (hd : decode cc pc = .ok (.ifCond .eq off, 3)) (ht : (pc : Int) + off = (tgt : Int)) (kt : b = 0 → GW p l e R s m args below meth c Q nL D A n ad cz ρ cells slots tgt ls st) (kf : b ≠ 0 → GW p l e R s m args below meth c Q nL D A n ad cz ρ cells slots (pc + 3) ls st) : GW p l e R s m args below meth c Q nL D A n ad cz ρ cells slots pc ls (.int (nI b) :: st) := g_if_eq X tgt hd ht (fun h => kt (hz.mp h)) (fun h => kf (fun q => h (hz.mpr q)))
theorem nI_z {b : Nat} (hb : b < 2 ^ 31) : nI b = 0 ↔ b = 0 := by
  rw [show (0 : Int32) = nI 0 from rfl]
  exact nI_eq hb (by omega)
theorem vp_z0 : vp_nar .boolean 0 = 0 := by decide
theorem vp_z1 : vp_nar .boolean 1 = 1 := by decide
theorem vp_z01 {x : Int32} (h : x = 0 ∨ x = 1) : vp_nar .boolean x = x := by rcases h with rfl | rfl <;> decide
end GR
theorem up2_s {ρ : Nat → Nat → Int32} {k j : Nat} {v : Int32} : up2 ρ k j v k j = v := by simp [up2, up1, upd]
theorem up2_k {ρ : Nat → Nat → Int32} {k j a b : Nat} {v : Int32} (h : a ≠ k) : up2 ρ k j v a b = ρ a b := by simp [up2, up1, h]
theorem up2_j {ρ : Nat → Nat → Int32} {k j a b : Nat} {v : Int32} (h : b ≠ j) : up2 ρ k j v a b = ρ a b := by
  simp only [up2, up1, upd]
  by_cases h1 : a = k
  · subst h1; simp [upd, h]
  · simp [h1]
theorem up2_e {ρ : Nat → Nat → Int32} {k j a b : Nat} {v : Int32} : up2 ρ k j v a b = if a = k ∧ b = j then v else ρ a b := by
  simp only [up2, up1, upd]
  by_cases h1 : a = k
  · subst h1; by_cases h2 : b = j <;> simp [upd, h2]
  · simp [h1]
end
section
/-! What the methods answer, in plain words over the class's cells -/
def mnI (x y : Int32) : Int32 := if y < x then y else x
def mxI (x y : Int32) : Int32 := if x < y then y else x
def ab (o : Int32) : Int32 := if 0 ≤ o then o else 0 - o
def hm (w o c : Int32) : Int32 := if c = 0 then mnI 60 (ab o + 2 * w) else 60
def hP (ρ : Nat → Nat → Int32) (b i : Nat) : Int32 := hm (ρ (b + 1) i) (ρ (b + 2) i) (ρ (b + 3) i)
def sumI (f : Nat → Int32) : Nat → Int32
  | 0 => 0
  | k + 1 => sumI f k + f k
theorem sumI_s {f : Nat → Int32} {k : Nat} : sumI f (k + 1) = sumI f k + f k := rfl
theorem sumI_congr {f g : Nat → Int32} {k : Nat} (h : ∀ j, j < k → f j = g j) : sumI f k = sumI g k := by
  induction k with
  | zero => rfl
  | succ k ih => rw [sumI_s, sumI_s, ih (fun j hj => h j (by omega)), h k (by omega)]
def hd (y : Int32) : Int32 := mxI (-60) (mnI 60 y)
def b01 (x : Int32) : Int32 := if x = 0 then 0 else 1
def crc (ρ : Nat → Nat → Int32) (b : Nat) : Int32 := sumI (fun j => b01 (ρ (b + 3) j)) 12
def wrn (ρ : Nat → Nat → Int32) (b : Nat) : Int32 := sumI (fun j => ρ (b + 1) j) 12
def ofn (ρ : Nat → Nat → Int32) (b : Nat) : Int32 := sumI (fun j => ab (ρ (b + 2) j)) 12
def sumUpF (ρ : Nat → Nat → Int32) (b w : Nat) : Int32 := if w = 5 then crc ρ b else if w = 6 then wrn ρ b else ofn ρ b
def tellF (ρ : Nat → Nat → Int32) (b i w : Nat) : Int32 := if w = 0 then ρ (b + 1) i else if w = 1 then ρ (b + 2) i else if w = 2 then b01 (ρ (b + 3) i) else if w = 3 then hP ρ b i else b01 (ρ (b + 4) i)
/-- the first i pipes of the trial are as the organ's -/
def becR (ρ : Nat → Nat → Int32) (i : Nat) : Nat → Nat → Int32 := fun k j => if (k = 7 ∨ k = 8 ∨ k = 9 ∨ k = 10) ∧ j < i then ρ (k - 5) j else ρ k j
def clrR (ρ : Nat → Nat → Int32) (b i : Nat) : Nat → Nat → Int32 := fun k j => if k = b + 3 ∧ j < i then 0 else ρ k j
def cmB (ρ : Nat → Nat → Int32) (b j : Nat) : Int32 := if ρ (b + 1) j < 10 then 0 else if ρ (b + 4) j = 0 then (if ρ (b + 3) j = 0 then 1 else 0) else 0
def par (d : Int32) (j : Nat) : Int32 := if nI (j % 2) = 0 then d else -d
/-- a night, with damp d, over the first i pipes -/
def ntR (ρ : Nat → Nat → Int32) (b : Nat) (d : Int32) (i : Nat) : Nat → Nat → Int32 := fun k j =>
  if j < i then (if k = b + 2 then hd (ρ k j + par d j) else if k = b + 3 then (if cmB ρ b j = 1 then 1 else ρ k j) else if k = b + 4 then 0 else ρ k j) else ρ k j
theorem remN {a : Nat} (h : a < 2 ^ 31) : nI a - nI a / 2 * 2 = nI (a % 2) := pk_rem (d := 2) h (by omega) (by omega)
theorem remN7 {a : Nat} (h : a < 2 ^ 31) : nI a - nI a / 7 * 7 = nI (a % 7) := pk_rem (d := 7) h (by omega) (by omega)
def pmF (p w : Int32) : Int32 := if (p >>> (w &&& 31)) &&& 1 = 1 then 1 else 0
def hrd (ρ : Nat → Nat → Int32) (s : Nat) : Int32 := sumI (fun j => ρ (33 + 2 * s) j) 6
def toldF (ρ : Nat → Nat → Int32) (s w : Nat) (wd : Int32) : Int32 := if w = 0 then ρ (32 + 2 * s) 1 else if w = 1 then ρ (32 + 2 * s) 2 else if w = 2 then pmF (ρ (32 + 2 * s) 2) wd else if w = 3 then ρ (32 + 2 * s) 3 else hrd ρ s
/-- the sound of tune t by the pipes b, the pipe sp spared -/
def sndC (ρ : Nat → Nat → Int32) (b t : Nat) (sp : Int32) : Int32 := if ρ (14 + 3 * t) 2 = 0 then 0 else 60 - sumI (fun i => if nI i = sp then 0 else ρ (16 + 3 * t) i * hP ρ b i) 12 / ρ (14 + 3 * t) 2
def wdR (ρ : Nat → Nat → Int32) (b t i : Nat) : Nat → Nat → Int32 := fun k j => if j < i ∧ 0 < ρ (16 + 3 * t) j then (if k = b + 1 then mnI 30 (ρ k j + ρ (16 + 3 * t) j) else if k = b + 4 then 1 else ρ k j) else ρ k j
def fgR (ρ : Nat → Nat → Int32) (s i : Nat) : Nat → Nat → Int32 := fun k j => if k = 33 + 2 * s ∧ j < i then 0 else ρ k j
def payV (ρ : Nat → Nat → Int32) (s t : Nat) (snd : Int32) : Int32 := nI ((ρ (32 + 2 * s) 1 * snd / 60).toNatClampNeg / 2 ^ (ρ (33 + 2 * s) t).toNatClampNeg)
def payOK (ρ : Nat → Nat → Int32) (s t : Nat) (snd : Int32) : Prop := ∃ P h : Nat, ρ (32 + 2 * s) 1 * snd / 60 = nI P ∧ P < 2 ^ 20 ∧ ρ (33 + 2 * s) t = nI h ∧ h < 2 ^ 31
def pyN (ρ : Nat → Nat → Int32) (s t : Nat) : Int32 := payV ρ s t (sndC ρ 1 t (-1))
def wdF (ρ : Nat → Nat → Int32) : Int32 := nI ((ρ 0 7).toNatClampNeg % 7)
def nsR (ρ : Nat → Nat → Int32) (b d : Nat) : Nat → Nat → Nat → Int32
  | 0 => ρ
  | i + 1 => ntR (nsR ρ b d i) b (ρ 13 ((d + i) % 7)) 12
def csF (ρ : Nat → Nat → Int32) (b d : Nat) : Nat → Int32
  | 0 => 0
  | i + 1 => csF ρ b d i + sumI (cmB (nsR ρ b d i) b) 12
theorem nsR_out {ρ : Nat → Nat → Int32} {b d i k : Nat} (h : k < b + 2 ∨ b + 4 < k) : nsR ρ b d i k = ρ k := by
  induction i with
  | zero => rfl
  | succ i ih =>
    rw [← ih]
    funext j
    simp only [nsR, ntR]
    rw [if_neg (show ¬ k = b + 2 by omega), if_neg (show ¬ k = b + 3 by omega), if_neg (show ¬ k = b + 4 by omega)]
    exact ite_self _
def countF (ρ : Nat → Nat → Int32) (w : Nat) : Int32 := if w = 0 then ρ 0 7 else if w = 1 then wdF ρ else if w = 2 then ρ 0 8 else if w = 3 then ρ 0 5 else if w = 4 then ρ 0 6 else if w = 8 then ρ 0 9 else sumUpF ρ 1 w
def mixF (d : Int64) (x : Int32) : Int64 := d * 31 + x.toInt64
def mxs (f : Nat → Int32) : Nat → Int64 → Int64
  | 0, d => d
  | k + 1, d => mixF (mxs f k d) (f k)
def mtF (ρ : Nat → Nat → Int32) (t : Nat) (d : Int64) : Int64 := mixF (mxs (fun k => ρ (15 + 3 * t) k) (ρ (14 + 3 * t) 2).toNatClampNeg (mixF d (ρ (14 + 3 * t) 2))) (sndC ρ 1 t (-1))
def msF (ρ : Nat → Nat → Int32) (s : Nat) (d : Int64) : Int64 := mxs (fun t => pyN ρ s t) (ρ 0 5).toNatClampNeg (mxs (fun w => toldF ρ s w (wdF ρ)) 5 d)
theorem nI_le0 {b : Nat} (hb : b < 2 ^ 31) (h : nI b ≤ 0) : b = 0 := by
  rw [show (0 : Int32) = nI 0 from rfl, nI_leI hb (by omega)] at h
  omega
theorem halfN {P i : Nat} (h : P < 2 ^ 20) : nI (P / 2 ^ i) / 2 = nI (P / 2 ^ (i + 1)) := by
  have h1 : P / 2 ^ i ≤ P := Nat.div_le_self _ _
  rw [show nI (P / 2 ^ i) / 2 = nI (P / 2 ^ i / 2) from pk_div (d := 2) (by omega) (by omega) (by omega), Nat.div_div_eq_div_mul, Nat.pow_succ]
theorem xorN {a b : Nat} (ha : a < 2 ^ 31) (hb : b < 2 ^ 31) : 0 ≤ nI a ^^^ nI b := by
  have key : ∀ {x : Int32}, x.toBitVec.msb = false → 0 ≤ x := fun {x} hx => by
    rw [Int32.le_iff_toInt_le]
    show (0 : Int) ≤ x.toBitVec.toInt
    rw [BitVec.toInt_eq_msb_cond, hx]
    simp
  apply key
  have hm : ∀ n : Nat, n < 2 ^ 31 → (nI n).toBitVec.msb = false := fun n hn => by
    rw [BitVec.msb_eq_decide, pk_tn (by omega)]
    simp; omega
  rw [Int32.toBitVec_xor, BitVec.msb_xor, hm a ha, hm b hb]
  rfl
theorem nI_zero : (0 : Int32) = nI 0 := rfl
end
section
theorem kc_X0_harmOf : Cond.code yX0_harmOf cX0_harmOf 2 (some .int) ∈ wAll := kAll 167 (by decide +kernel) (by decide +kernel)
theorem kf_X0_18 : Cond.fieldLink RX0 18 (TX0 2).1 (TX0 2).2.1 (TX0 2).2.2.1 ∈ wAll := kAll 53 (by decide +kernel) (by decide +kernel)
theorem ku_X0 : ∀ w ∈ u_ws RX0 TX0 4, w ∈ wAll := by decide +kernel
theorem kv_X0 : vwCl[0]? = some (RX0, TX0, 4) := rfl
theorem kf_X0_15 : Cond.fieldLink RX0 15 (TX0 1).1 (TX0 1).2.1 (TX0 1).2.2.1 ∈ wAll := kAll 51 (by decide +kernel) (by decide +kernel)
theorem km_X0_25 : Cond.methodLink RX0 25 Lib.Math.abs.name ∈ wAll := kAll 168 (by decide +kernel) (by decide +kernel)
theorem kt_mabs : Cond.static Lib.Math.abs.name ∈ wAll := kAll 169 (by decide +kernel) (by decide +kernel)
theorem ki_math : Cond.initialized "java/lang/Math" ∈ wAll := kAll 32 (by decide +kernel) (by decide +kernel)
theorem kc_mabs : Cond.code Lib.Math.abs.name Lib.Math.abs.code 1 (some .int) ∈ wAll := kAll 170 (by decide +kernel) (by decide +kernel)
theorem kf_X0_9 : Cond.fieldLink RX0 9 (TX0 0).1 (TX0 0).2.1 (TX0 0).2.2.1 ∈ wAll := kAll 49 (by decide +kernel) (by decide +kernel)
theorem km_X0_31 : Cond.methodLink RX0 31 Lib.Math.min.name ∈ wAll := kAll 171 (by decide +kernel) (by decide +kernel)
theorem kt_mmin : Cond.static Lib.Math.min.name ∈ wAll := kAll 172 (by decide +kernel) (by decide +kernel)
theorem kc_mmin : Cond.code Lib.Math.min.name Lib.Math.min.code 2 (some .int) ∈ wAll := kAll 173 (by decide +kernel) (by decide +kernel)
theorem kc_X0_wear : Cond.code yX0_wear cX0_wear 3 none ∈ wAll := kAll 431 (by decide +kernel) (by decide +kernel)
theorem kf_X0_22 : Cond.fieldLink RX0 22 (TX0 3).1 (TX0 3).2.1 (TX0 3).2.2.1 ∈ wAll := kAll 54 (by decide +kernel) (by decide +kernel)
theorem kc_X0_shift : Cond.code yX0_shift cX0_shift 3 none ∈ wAll := kAll 443 (by decide +kernel) (by decide +kernel)
theorem km_X0_35 : Cond.methodLink RX0 35 Lib.Math.max.name ∈ wAll := kAll 444 (by decide +kernel) (by decide +kernel)
theorem kt_mmax : Cond.static Lib.Math.max.name ∈ wAll := kAll 445 (by decide +kernel) (by decide +kernel)
theorem kc_mmax : Cond.code Lib.Math.max.name Lib.Math.max.code 2 (some .int) ∈ wAll := kAll 446 (by decide +kernel) (by decide +kernel)
theorem kc_X0_become : Cond.code yX0_become cX0_become 3 none ∈ wAll := kAll 542 (by decide +kernel) (by decide +kernel)
theorem kc_X0_passNight : Cond.code yX0_passNight cX0_passNight 4 (some .int) ∈ wAll := kAll 503 (by decide +kernel) (by decide +kernel)
theorem km_X0_38 : Cond.methodLink RX0 38 yX0_shift ∈ wAll := kAll 504 (by decide +kernel) (by decide +kernel)
theorem kj_X0_shift : Cond.instanceMethod yX0_shift ∈ wAll := kAll 441 (by decide +kernel) (by decide +kernel)
theorem ks_X0_shift : Cond.selects RX0 yX0_shift yX0_shift ∈ wAll := kAll 442 (by decide +kernel) (by decide +kernel)
theorem ki_X0 : Cond.initialized RX0 ∈ wAll := kAll 21 (by decide +kernel) (by decide +kernel)
theorem kl_X0_38 : gLkV RX0 38 RX0 yX0_shift cX0_shift 3 none 2 := ⟨km_X0_38, kj_X0_shift, ks_X0_shift, ki_X0, kc_X0_shift, by decide +kernel⟩
theorem kc_X0_clearCrickets : Cond.code yX0_clearCrickets cX0_clearCrickets 2 none ∈ wAll := kAll 151 (by decide +kernel) (by decide +kernel)
theorem kc_X0_cricketCount : Cond.code yX0_cricketCount cX0_cricketCount 3 (some .int) ∈ wAll := kAll 147 (by decide +kernel) (by decide +kernel)
theorem kc_X0_wornInAll : Cond.code yX0_wornInAll cX0_wornInAll 3 (some .int) ∈ wAll := kAll 197 (by decide +kernel) (by decide +kernel)
theorem kc_X0_offInAll : Cond.code yX0_offInAll cX0_offInAll 3 (some .int) ∈ wAll := kAll 201 (by decide +kernel) (by decide +kernel)
theorem kc_X0_sumUp : Cond.code yX0_sumUp cX0_sumUp 2 (some .int) ∈ wAll := kAll 192 (by decide +kernel) (by decide +kernel)
theorem km_X0_42 : Cond.methodLink RX0 42 yX0_cricketCount ∈ wAll := kAll 193 (by decide +kernel) (by decide +kernel)
theorem kj_X0_cricketCount : Cond.instanceMethod yX0_cricketCount ∈ wAll := kAll 145 (by decide +kernel) (by decide +kernel)
theorem ks_X0_cricketCount : Cond.selects RX0 yX0_cricketCount yX0_cricketCount ∈ wAll := kAll 146 (by decide +kernel) (by decide +kernel)
theorem kl_X0_42 : gLkV RX0 42 RX0 yX0_cricketCount cX0_cricketCount 3 (some .int) 0 := ⟨km_X0_42, kj_X0_cricketCount, ks_X0_cricketCount, ki_X0, kc_X0_cricketCount, by decide +kernel⟩
theorem km_X0_46 : Cond.methodLink RX0 46 yX0_wornInAll ∈ wAll := kAll 194 (by decide +kernel) (by decide +kernel)
theorem kj_X0_wornInAll : Cond.instanceMethod yX0_wornInAll ∈ wAll := kAll 195 (by decide +kernel) (by decide +kernel)
theorem ks_X0_wornInAll : Cond.selects RX0 yX0_wornInAll yX0_wornInAll ∈ wAll := kAll 196 (by decide +kernel) (by decide +kernel)
theorem kl_X0_46 : gLkV RX0 46 RX0 yX0_wornInAll cX0_wornInAll 3 (some .int) 0 := ⟨km_X0_46, kj_X0_wornInAll, ks_X0_wornInAll, ki_X0, kc_X0_wornInAll, by decide +kernel⟩
theorem km_X0_49 : Cond.methodLink RX0 49 yX0_offInAll ∈ wAll := kAll 198 (by decide +kernel) (by decide +kernel)
theorem kj_X0_offInAll : Cond.instanceMethod yX0_offInAll ∈ wAll := kAll 199 (by decide +kernel) (by decide +kernel)
theorem ks_X0_offInAll : Cond.selects RX0 yX0_offInAll yX0_offInAll ∈ wAll := kAll 200 (by decide +kernel) (by decide +kernel)
theorem kl_X0_49 : gLkV RX0 49 RX0 yX0_offInAll cX0_offInAll 3 (some .int) 0 := ⟨km_X0_49, kj_X0_offInAll, ks_X0_offInAll, ki_X0, kc_X0_offInAll, by decide +kernel⟩
theorem kc_X0_tell : Cond.code yX0_tell cX0_tell 3 (some .int) ∈ wAll := kAll 209 (by decide +kernel) (by decide +kernel)
theorem km_X0_52 : Cond.methodLink RX0 52 yX0_harmOf ∈ wAll := kAll 210 (by decide +kernel) (by decide +kernel)
theorem kj_X0_harmOf : Cond.instanceMethod yX0_harmOf ∈ wAll := kAll 165 (by decide +kernel) (by decide +kernel)
theorem ks_X0_harmOf : Cond.selects RX0 yX0_harmOf yX0_harmOf ∈ wAll := kAll 166 (by decide +kernel) (by decide +kernel)
theorem kl_X0_52 : gLkV RX0 52 RX0 yX0_harmOf cX0_harmOf 2 (some .int) 1 := ⟨km_X0_52, kj_X0_harmOf, ks_X0_harmOf, ki_X0, kc_X0_harmOf, by decide +kernel⟩
theorem kc_X1_isPermittedOn : Cond.code yX1_isPermittedOn cX1_isPermittedOn 2 (some .boolean) ∈ wAll := kAll 226 (by decide +kernel) (by decide +kernel)
theorem kf_X1_15 : Cond.fieldLink RX1 15 (TX1 2).1 (TX1 2).2.1 (TX1 2).2.2.1 ∈ wAll := kAll 96 (by decide +kernel) (by decide +kernel)
theorem ku_X1 : ∀ w ∈ u_ws RX1 TX1 4, w ∈ wAll := by decide +kernel
theorem kv_X1 : vwCl[1]? = some (RX1, TX1, 4) := rfl
theorem kc_X1_payFor : Cond.code yX1_payFor cX1_payFor 5 (some .int) ∈ wAll := kAll 238 (by decide +kernel) (by decide +kernel)
theorem kf_X1_19 : Cond.fieldLink RX1 19 (TX1 1).1 (TX1 1).2.1 (TX1 1).2.2.1 ∈ wAll := kAll 94 (by decide +kernel) (by decide +kernel)
theorem kf_X1_9 : Cond.fieldLink RX1 9 (TX1 0).1 (TX1 0).2.1 (TX1 0).2.2.1 ∈ wAll := kAll 92 (by decide +kernel) (by decide +kernel)
theorem kc_X1_forgetDay : Cond.code yX1_forgetDay cX1_forgetDay 2 none ∈ wAll := kAll 508 (by decide +kernel) (by decide +kernel)
theorem kc_X1_heardInAll : Cond.code yX1_heardInAll cX1_heardInAll 3 (some .int) ∈ wAll := kAll 230 (by decide +kernel) (by decide +kernel)
theorem kc_X1_tell : Cond.code yX1_tell cX1_tell 3 (some .int) ∈ wAll := kAll 222 (by decide +kernel) (by decide +kernel)
theorem km_X1_22 : Cond.methodLink RX1 22 yX1_isPermittedOn ∈ wAll := kAll 223 (by decide +kernel) (by decide +kernel)
theorem kj_X1_isPermittedOn : Cond.instanceMethod yX1_isPermittedOn ∈ wAll := kAll 224 (by decide +kernel) (by decide +kernel)
theorem ks_X1_isPermittedOn : Cond.selects RX1 yX1_isPermittedOn yX1_isPermittedOn ∈ wAll := kAll 225 (by decide +kernel) (by decide +kernel)
theorem ki_X1 : Cond.initialized RX1 ∈ wAll := kAll 23 (by decide +kernel) (by decide +kernel)
theorem kl_X1_22 : gLkV RX1 22 RX1 yX1_isPermittedOn cX1_isPermittedOn 2 (some .boolean) 1 := ⟨km_X1_22, kj_X1_isPermittedOn, ks_X1_isPermittedOn, ki_X1, kc_X1_isPermittedOn, by decide +kernel⟩
theorem kf_X1_26 : Cond.fieldLink RX1 26 (TX1 3).1 (TX1 3).2.1 (TX1 3).2.2.1 ∈ wAll := kAll 98 (by decide +kernel) (by decide +kernel)
theorem km_X1_29 : Cond.methodLink RX1 29 yX1_heardInAll ∈ wAll := kAll 227 (by decide +kernel) (by decide +kernel)
theorem kj_X1_heardInAll : Cond.instanceMethod yX1_heardInAll ∈ wAll := kAll 228 (by decide +kernel) (by decide +kernel)
theorem ks_X1_heardInAll : Cond.selects RX1 yX1_heardInAll yX1_heardInAll ∈ wAll := kAll 229 (by decide +kernel) (by decide +kernel)
theorem kl_X1_29 : gLkV RX1 29 RX1 yX1_heardInAll cX1_heardInAll 3 (some .int) 0 := ⟨km_X1_29, kj_X1_heardInAll, ks_X1_heardInAll, ki_X1, kc_X1_heardInAll, by decide +kernel⟩
theorem kc_X2_append : Cond.code yX2_append cX2_append 2 (some .int) ∈ wAll := kAll 351 (by decide +kernel) (by decide +kernel)
theorem kf_X2_9 : Cond.fieldLink RX2 9 (TX2 0).1 (TX2 0).2.1 (TX2 0).2.2.1 ∈ wAll := kAll 73 (by decide +kernel) (by decide +kernel)
theorem ku_X2 : ∀ w ∈ u_ws RX2 TX2 3, w ∈ wAll := by decide +kernel
theorem kv_X2 : vwCl[2]? = some (RX2, TX2, 3) := rfl
theorem kf_X2_18 : Cond.fieldLink RX2 18 (TX2 2).1 (TX2 2).2.1 (TX2 2).2.2.1 ∈ wAll := kAll 76 (by decide +kernel) (by decide +kernel)
theorem kf_X2_15 : Cond.fieldLink RX2 15 (TX2 1).1 (TX2 1).2.1 (TX2 1).2.2.1 ∈ wAll := kAll 75 (by decide +kernel) (by decide +kernel)
theorem kc_X2_soundSparing : Cond.code yX2_soundSparing cX2_soundSparing 5 (some .int) ∈ wAll := kAll 163 (by decide +kernel) (by decide +kernel)
theorem km_X2_26 : Cond.methodLink RX2 26 yX0_harmOf ∈ wAll := kAll 164 (by decide +kernel) (by decide +kernel)
theorem kl_X2_26 : gLkV RX2 26 RX0 yX0_harmOf cX0_harmOf 2 (some .int) 1 := ⟨km_X2_26, kj_X0_harmOf, ks_X0_harmOf, ki_X0, kc_X0_harmOf, by decide +kernel⟩
theorem kc_X2_soundOf : Cond.code yX2_soundOf cX2_soundOf 2 (some .int) ∈ wAll := kAll 159 (by decide +kernel) (by decide +kernel)
theorem km_X2_22 : Cond.methodLink RX2 22 yX2_soundSparing ∈ wAll := kAll 160 (by decide +kernel) (by decide +kernel)
theorem kj_X2_soundSparing : Cond.instanceMethod yX2_soundSparing ∈ wAll := kAll 161 (by decide +kernel) (by decide +kernel)
theorem ks_X2_soundSparing : Cond.selects RX2 yX2_soundSparing yX2_soundSparing ∈ wAll := kAll 162 (by decide +kernel) (by decide +kernel)
theorem ki_X2 : Cond.initialized RX2 ∈ wAll := kAll 22 (by decide +kernel) (by decide +kernel)
theorem kl_X2_22 : gLkV RX2 22 RX2 yX2_soundSparing cX2_soundSparing 5 (some .int) 2 := ⟨km_X2_22, kj_X2_soundSparing, ks_X2_soundSparing, ki_X2, kc_X2_soundSparing, by decide +kernel⟩
theorem kc_X2_wearDown : Cond.code yX2_wearDown cX2_wearDown 3 none ∈ wAll := kAll 427 (by decide +kernel) (by decide +kernel)
theorem km_X2_32 : Cond.methodLink RX2 32 yX0_wear ∈ wAll := kAll 428 (by decide +kernel) (by decide +kernel)
theorem kj_X0_wear : Cond.instanceMethod yX0_wear ∈ wAll := kAll 429 (by decide +kernel) (by decide +kernel)
theorem ks_X0_wear : Cond.selects RX0 yX0_wear yX0_wear ∈ wAll := kAll 430 (by decide +kernel) (by decide +kernel)
theorem kl_X2_32 : gLkV RX2 32 RX0 yX0_wear cX0_wear 3 none 2 := ⟨km_X2_32, kj_X0_wear, ks_X0_wear, ki_X0, kc_X0_wear, by decide +kernel⟩
theorem kc_J9_floorMod_7cf53 : Cond.code yJ9_floorMod_7cf53 cJ9_floorMod_7cf53 3 (some .int) ∈ wAll := kAll 188 (by decide +kernel) (by decide +kernel)
theorem kc_X3_weekdayOf : Cond.code yX3_weekdayOf cX3_weekdayOf 1 (some .int) ∈ wAll := kAll 185 (by decide +kernel) (by decide +kernel)
theorem km_X3_210 : Cond.methodLink RX3 210 yJ9_floorMod_7cf53 ∈ wAll := kAll 186 (by decide +kernel) (by decide +kernel)
theorem kt_J9_floorMod_7cf53 : Cond.static yJ9_floorMod_7cf53 ∈ wAll := kAll 187 (by decide +kernel) (by decide +kernel)
theorem ki_J9 : Cond.initialized RJ9 ∈ wAll := kAll 32 (by decide +kernel) (by decide +kernel)
theorem kl_X3_210 : gLkS RX3 210 yJ9_floorMod_7cf53 cJ9_floorMod_7cf53 3 (some .int) 2 := ⟨km_X3_210, kt_J9_floorMod_7cf53, ki_J9, kc_J9_floorMod_7cf53, by decide +kernel⟩
theorem kc_X3_checkTune : Cond.code yX3_checkTune cX3_checkTune 2 none ∈ wAll := kAll 326 (by decide +kernel) (by decide +kernel)
theorem kk_X3_67 : Cond.classLink RX3 67 "java/lang/IndexOutOfBoundsException" ∈ wAll := kAll 327 (by decide +kernel) (by decide +kernel)
theorem ki_IOB : Cond.initialized "java/lang/IndexOutOfBoundsException" ∈ wAll := kAll 30 (by decide +kernel) (by decide +kernel)
theorem kh_IOB_71 : ∀ w ∈ vx_atS RX3 71 "java/lang/IndexOutOfBoundsException" ["java/lang/RuntimeException", "java/lang/Exception"], w ∈ wAll ∨ w ∈ gNsw := by decide +kernel
theorem kh_IOB_71g : ∀ w ∈ Cond.classLink RX3 67 "java/lang/IndexOutOfBoundsException" :: Cond.initialized "java/lang/IndexOutOfBoundsException" :: vx_atS RX3 71 "java/lang/IndexOutOfBoundsException" ["java/lang/RuntimeException", "java/lang/Exception"], vx_ot w = true := by decide +kernel
theorem kst_200 : (RX3, 200, "no such tune") ∈ gStr := by decide +kernel
theorem kf_X3_41 : Cond.fieldLink RX3 41 (TX3 5).1 (TX3 5).2.1 (TX3 5).2.2.1 ∈ wAll := kAll 114 (by decide +kernel) (by decide +kernel)
theorem ku_X3 : ∀ w ∈ u_ws RX3 TX3 10, w ∈ wAll := by decide +kernel
theorem kv_X3 : vwCl[3]? = some (RX3, TX3, 10) := rfl
theorem kc_X3_checkStreet : Cond.code yX3_checkStreet cX3_checkStreet 2 none ∈ wAll := kAll 399 (by decide +kernel) (by decide +kernel)
theorem kst_202 : (RX3, 202, "no such street") ∈ gStr := by decide +kernel
theorem kf_X3_83 : Cond.fieldLink RX3 83 (TX3 6).1 (TX3 6).2.1 (TX3 6).2.2.1 ∈ wAll := kAll 115 (by decide +kernel) (by decide +kernel)
theorem kc_X3_checkPipe : Cond.code yX3_checkPipe cX3_checkPipe 1 none ∈ wAll := kAll 345 (by decide +kernel) (by decide +kernel)
theorem kst_204 : (RX3, 204, "pipe is not 0 to 11") ∈ gStr := by decide +kernel
theorem kc_X3_checkPermits : Cond.code yX3_checkPermits cX3_checkPermits 1 none ∈ wAll := kAll 386 (by decide +kernel) (by decide +kernel)
theorem kk_X3_75 : Cond.classLink RX3 75 "java/lang/IllegalArgumentException" ∈ wAll := kAll 368 (by decide +kernel) (by decide +kernel)
theorem ki_IAE : Cond.initialized "java/lang/IllegalArgumentException" ∈ wAll := kAll 31 (by decide +kernel) (by decide +kernel)
theorem kh_IAE_79 : ∀ w ∈ vx_atS RX3 79 "java/lang/IllegalArgumentException" ["java/lang/RuntimeException", "java/lang/Exception"], w ∈ wAll ∨ w ∈ gNsw := by decide +kernel
theorem kh_IAE_79g : ∀ w ∈ Cond.classLink RX3 75 "java/lang/IllegalArgumentException" :: Cond.initialized "java/lang/IllegalArgumentException" :: vx_atS RX3 79 "java/lang/IllegalArgumentException" ["java/lang/RuntimeException", "java/lang/Exception"], vx_ot w = true := by decide +kernel
theorem kst_206 : (RX3, 206, "permits is not a set of weekdays") ∈ gStr := by decide +kernel
theorem kc_X3_checkNights : Cond.code yX3_checkNights cX3_checkNights 1 none ∈ wAll := kAll 494 (by decide +kernel) (by decide +kernel)
theorem kst_208 : (RX3, 208, "nights is not 1 to 60") ∈ gStr := by decide +kernel
theorem kc_X3_payNow : Cond.code yX3_payNow cX3_payNow 3 (some .int) ∈ wAll := kAll 234 (by decide +kernel) (by decide +kernel)
theorem kf_X3_28 : Cond.fieldLink RX3 28 (TX3 3).1 (TX3 3).2.1 (TX3 3).2.2.1 ∈ wAll := kAll 112 (by decide +kernel) (by decide +kernel)
theorem kf_X3_21 : Cond.fieldLink RX3 21 (TX3 2).1 (TX3 2).2.1 (TX3 2).2.2.1 ∈ wAll := kAll 111 (by decide +kernel) (by decide +kernel)
theorem kf_X3_10 : Cond.fieldLink RX3 10 (TX3 0).1 (TX3 0).2.1 (TX3 0).2.2.1 ∈ wAll := kAll 109 (by decide +kernel) (by decide +kernel)
theorem km_X3_156 : Cond.methodLink RX3 156 yX2_soundOf ∈ wAll := kAll 156 (by decide +kernel) (by decide +kernel)
theorem kj_X2_soundOf : Cond.instanceMethod yX2_soundOf ∈ wAll := kAll 157 (by decide +kernel) (by decide +kernel)
theorem ks_X2_soundOf : Cond.selects RX2 yX2_soundOf yX2_soundOf ∈ wAll := kAll 158 (by decide +kernel) (by decide +kernel)
theorem kl_X3_156 : gLkV RX3 156 RX2 yX2_soundOf cX2_soundOf 2 (some .int) 1 := ⟨km_X3_156, kj_X2_soundOf, ks_X2_soundOf, ki_X2, kc_X2_soundOf, by decide +kernel⟩
theorem km_X3_215 : Cond.methodLink RX3 215 yX1_payFor ∈ wAll := kAll 235 (by decide +kernel) (by decide +kernel)
theorem kj_X1_payFor : Cond.instanceMethod yX1_payFor ∈ wAll := kAll 236 (by decide +kernel) (by decide +kernel)
theorem ks_X1_payFor : Cond.selects RX1 yX1_payFor yX1_payFor ∈ wAll := kAll 237 (by decide +kernel) (by decide +kernel)
theorem kl_X3_215 : gLkV RX3 215 RX1 yX1_payFor cX1_payFor 5 (some .int) 2 := ⟨km_X3_215, kj_X1_payFor, ks_X1_payFor, ki_X1, kc_X1_payFor, by decide +kernel⟩
theorem kc_X3_payFine : Cond.code yX3_payFine cX3_payFine 2 (some .int) ∈ wAll := kAll 422 (by decide +kernel) (by decide +kernel)
theorem kf_X3_37 : Cond.fieldLink RX3 37 (TX3 8).1 (TX3 8).2.1 (TX3 8).2.2.1 ∈ wAll := kAll 117 (by decide +kernel) (by decide +kernel)
theorem km_X3_218 : Cond.methodLink RX3 218 Lib.Math.min.name ∈ wAll := kAll 423 (by decide +kernel) (by decide +kernel)
theorem kf_X3_221 : Cond.fieldLink RX3 221 (TX3 9).1 (TX3 9).2.1 (TX3 9).2.2.1 ∈ wAll := kAll 118 (by decide +kernel) (by decide +kernel)
theorem kc_X3_passNights : Cond.code yX3_passNights cX3_passNights 5 (some .int) ∈ wAll := kAll 499 (by decide +kernel) (by decide +kernel)
theorem kf_X3_33 : Cond.fieldLink RX3 33 (TX3 4).1 (TX3 4).2.1 (TX3 4).2.2.1 ∈ wAll := kAll 113 (by decide +kernel) (by decide +kernel)
theorem kf_X3_103 : Cond.fieldLink RX3 103 (TX3 7).1 (TX3 7).2.1 (TX3 7).2.2.1 ∈ wAll := kAll 116 (by decide +kernel) (by decide +kernel)
theorem km_X3_106 : Cond.methodLink RX3 106 yX3_weekdayOf ∈ wAll := kAll 183 (by decide +kernel) (by decide +kernel)
theorem kt_X3_weekdayOf : Cond.static yX3_weekdayOf ∈ wAll := kAll 184 (by decide +kernel) (by decide +kernel)
theorem ki_X3 : Cond.initialized RX3 ∈ wAll := kAll 20 (by decide +kernel) (by decide +kernel)
theorem kl_X3_106 : gLkS RX3 106 yX3_weekdayOf cX3_weekdayOf 1 (some .int) 1 := ⟨km_X3_106, kt_X3_weekdayOf, ki_X3, kc_X3_weekdayOf, by decide +kernel⟩
theorem km_X3_224 : Cond.methodLink RX3 224 yX0_passNight ∈ wAll := kAll 500 (by decide +kernel) (by decide +kernel)
theorem kj_X0_passNight : Cond.instanceMethod yX0_passNight ∈ wAll := kAll 501 (by decide +kernel) (by decide +kernel)
theorem ks_X0_passNight : Cond.selects RX0 yX0_passNight yX0_passNight ∈ wAll := kAll 502 (by decide +kernel) (by decide +kernel)
theorem kl_X3_224 : gLkV RX3 224 RX0 yX0_passNight cX0_passNight 4 (some .int) 1 := ⟨km_X3_224, kj_X0_passNight, ks_X0_passNight, ki_X0, kc_X0_passNight, by decide +kernel⟩
theorem kc_X3_countNow : Cond.code yX3_countNow cX3_countNow 2 (some .int) ∈ wAll := kAll 182 (by decide +kernel) (by decide +kernel)
theorem km_X3_184 : Cond.methodLink RX3 184 yX0_sumUp ∈ wAll := kAll 189 (by decide +kernel) (by decide +kernel)
theorem kj_X0_sumUp : Cond.instanceMethod yX0_sumUp ∈ wAll := kAll 190 (by decide +kernel) (by decide +kernel)
theorem ks_X0_sumUp : Cond.selects RX0 yX0_sumUp yX0_sumUp ∈ wAll := kAll 191 (by decide +kernel) (by decide +kernel)
theorem kl_X3_184 : gLkV RX3 184 RX0 yX0_sumUp cX0_sumUp 2 (some .int) 1 := ⟨km_X3_184, kj_X0_sumUp, ks_X0_sumUp, ki_X0, kc_X0_sumUp, by decide +kernel⟩
theorem kc_X3_mix : Cond.code yX3_mix cX3_mix 3 (some .long) ∈ wAll := kAll 204 (by decide +kernel) (by decide +kernel)
theorem kL_X3_227 : Cond.constantLong RX3 227 31 ∈ wAll := kAll 205 (by decide +kernel) (by decide +kernel)
theorem kc_X3_mixTune : Cond.code yX3_mixTune cX3_mixTune 7 (some .long) ∈ wAll := kAll 214 (by decide +kernel) (by decide +kernel)
theorem kf_X3_58 : Cond.fieldLink RX3 58 (TX2 2).1 (TX2 2).2.1 (TX2 2).2.2.1 ∈ wAll := kAll 77 (by decide +kernel) (by decide +kernel)
theorem km_X3_189 : Cond.methodLink RX3 189 yX3_mix ∈ wAll := kAll 202 (by decide +kernel) (by decide +kernel)
theorem kt_X3_mix : Cond.static yX3_mix ∈ wAll := kAll 203 (by decide +kernel) (by decide +kernel)
theorem kl_X3_189 : gLkS RX3 189 yX3_mix cX3_mix 3 (some .long) 2 := ⟨km_X3_189, kt_X3_mix, ki_X3, kc_X3_mix, by decide +kernel⟩
theorem kf_X3_72 : Cond.fieldLink RX3 72 (TX2 0).1 (TX2 0).2.1 (TX2 0).2.2.1 ∈ wAll := kAll 74 (by decide +kernel) (by decide +kernel)
theorem kc_X3_mixStreet : Cond.code yX3_mixStreet cX3_mixStreet 7 (some .long) ∈ wAll := kAll 218 (by decide +kernel) (by decide +kernel)
theorem km_X3_117 : Cond.methodLink RX3 117 yX3_payNow ∈ wAll := kAll 231 (by decide +kernel) (by decide +kernel)
theorem kj_X3_payNow : Cond.instanceMethod yX3_payNow ∈ wAll := kAll 233 (by decide +kernel) (by decide +kernel)
theorem ks_X3_payNow : Cond.selects RX3 yX3_payNow yX3_payNow ∈ wAll := kAll 3 (by decide +kernel) (by decide +kernel)
theorem kl_X3_117 : gLkV RX3 117 RX3 yX3_payNow cX3_payNow 3 (some .int) 2 := ⟨km_X3_117, kj_X3_payNow, ks_X3_payNow, ki_X3, kc_X3_payNow, by decide +kernel⟩
theorem km_X3_160 : Cond.methodLink RX3 160 yX1_tell ∈ wAll := kAll 219 (by decide +kernel) (by decide +kernel)
theorem kj_X1_tell : Cond.instanceMethod yX1_tell ∈ wAll := kAll 220 (by decide +kernel) (by decide +kernel)
theorem ks_X1_tell : Cond.selects RX1 yX1_tell yX1_tell ∈ wAll := kAll 221 (by decide +kernel) (by decide +kernel)
theorem kl_X3_160 : gLkV RX3 160 RX1 yX1_tell cX1_tell 3 (some .int) 2 := ⟨km_X3_160, kj_X1_tell, ks_X1_tell, ki_X1, kc_X1_tell, by decide +kernel⟩
theorem kc_X3_barrel : Cond.code yX3_barrel cX3_barrel 1 (some .int) ∈ wAll := kAll 246 (by decide +kernel) (by decide +kernel)
theorem kk_X3_44 : Cond.classLink RX3 44 "java/lang/IllegalStateException" ∈ wAll := kAll 247 (by decide +kernel) (by decide +kernel)
theorem ki_ISE : Cond.initialized "java/lang/IllegalStateException" ∈ wAll := kAll 29 (by decide +kernel) (by decide +kernel)
theorem kh_ISE_48 : ∀ w ∈ vx_atS RX3 48 "java/lang/IllegalStateException" ["java/lang/RuntimeException", "java/lang/Exception"], w ∈ wAll ∨ w ∈ gNsw := by decide +kernel
theorem kh_ISE_48g : ∀ w ∈ Cond.classLink RX3 44 "java/lang/IllegalStateException" :: Cond.initialized "java/lang/IllegalStateException" :: vx_atS RX3 48 "java/lang/IllegalStateException" ["java/lang/RuntimeException", "java/lang/Exception"], vx_ot w = true := by decide +kernel
theorem kst_46 : (RX3, 46, "there are 6 tunes") ∈ gStr := by decide +kernel
theorem kc_X3_pin : Cond.code yX3_pin cX3_pin 3 (some .int) ∈ wAll := kAll 322 (by decide +kernel) (by decide +kernel)
theorem km_X3_51 : Cond.methodLink RX3 51 yX3_checkTune ∈ wAll := kAll 323 (by decide +kernel) (by decide +kernel)
theorem kj_X3_checkTune : Cond.instanceMethod yX3_checkTune ∈ wAll := kAll 325 (by decide +kernel) (by decide +kernel)
theorem ks_X3_checkTune : Cond.selects RX3 yX3_checkTune yX3_checkTune ∈ wAll := kAll 5 (by decide +kernel) (by decide +kernel)
theorem kl_X3_51 : gLkV RX3 51 RX3 yX3_checkTune cX3_checkTune 2 none 1 := ⟨km_X3_51, kj_X3_checkTune, ks_X3_checkTune, ki_X3, kc_X3_checkTune, by decide +kernel⟩
theorem km_X3_55 : Cond.methodLink RX3 55 yX3_checkPipe ∈ wAll := kAll 343 (by decide +kernel) (by decide +kernel)
theorem kt_X3_checkPipe : Cond.static yX3_checkPipe ∈ wAll := kAll 344 (by decide +kernel) (by decide +kernel)
theorem kl_X3_55 : gLkS RX3 55 yX3_checkPipe cX3_checkPipe 1 none 1 := ⟨km_X3_55, kt_X3_checkPipe, ki_X3, kc_X3_checkPipe, by decide +kernel⟩
theorem km_X3_63 : Cond.methodLink RX3 63 yX2_append ∈ wAll := kAll 348 (by decide +kernel) (by decide +kernel)
theorem kj_X2_append : Cond.instanceMethod yX2_append ∈ wAll := kAll 349 (by decide +kernel) (by decide +kernel)
theorem ks_X2_append : Cond.selects RX2 yX2_append yX2_append ∈ wAll := kAll 350 (by decide +kernel) (by decide +kernel)
theorem kl_X3_63 : gLkV RX3 63 RX2 yX2_append cX2_append 2 (some .int) 1 := ⟨km_X3_63, kj_X2_append, ks_X2_append, ki_X2, kc_X2_append, by decide +kernel⟩
theorem kst_61 : (RX3, 61, "the tune has 16 notes") ∈ gStr := by decide +kernel
theorem kc_X3_note : Cond.code yX3_note cX3_note 3 (some .int) ∈ wAll := kAll 358 (by decide +kernel) (by decide +kernel)
theorem kst_69 : (RX3, 69, "no such place") ∈ gStr := by decide +kernel
theorem kc_X3_street : Cond.code yX3_street cX3_street 3 (some .int) ∈ wAll := kAll 367 (by decide +kernel) (by decide +kernel)
theorem kst_77 : (RX3, 77, "listeners is not 0 to 90") ∈ gStr := by decide +kernel
theorem km_X3_80 : Cond.methodLink RX3 80 yX3_checkPermits ∈ wAll := kAll 384 (by decide +kernel) (by decide +kernel)
theorem kt_X3_checkPermits : Cond.static yX3_checkPermits ∈ wAll := kAll 385 (by decide +kernel) (by decide +kernel)
theorem kl_X3_80 : gLkS RX3 80 yX3_checkPermits cX3_checkPermits 1 none 1 := ⟨km_X3_80, kt_X3_checkPermits, ki_X3, kc_X3_checkPermits, by decide +kernel⟩
theorem kf_X3_88 : Cond.fieldLink RX3 88 (TX1 1).1 (TX1 1).2.1 (TX1 1).2.2.1 ∈ wAll := kAll 95 (by decide +kernel) (by decide +kernel)
theorem kf_X3_91 : Cond.fieldLink RX3 91 (TX1 2).1 (TX1 2).2.1 (TX1 2).2.2.1 ∈ wAll := kAll 97 (by decide +kernel) (by decide +kernel)
theorem kst_86 : (RX3, 86, "there are 8 streets") ∈ gStr := by decide +kernel
theorem kc_X3_permit : Cond.code yX3_permit cX3_permit 4 (some .int) ∈ wAll := kAll 395 (by decide +kernel) (by decide +kernel)
theorem km_X3_94 : Cond.methodLink RX3 94 yX3_checkStreet ∈ wAll := kAll 396 (by decide +kernel) (by decide +kernel)
theorem kj_X3_checkStreet : Cond.instanceMethod yX3_checkStreet ∈ wAll := kAll 398 (by decide +kernel) (by decide +kernel)
theorem ks_X3_checkStreet : Cond.selects RX3 yX3_checkStreet yX3_checkStreet ∈ wAll := kAll 6 (by decide +kernel) (by decide +kernel)
theorem kl_X3_94 : gLkV RX3 94 RX3 yX3_checkStreet cX3_checkStreet 2 none 1 := ⟨km_X3_94, kj_X3_checkStreet, ks_X3_checkStreet, ki_X3, kc_X3_checkStreet, by decide +kernel⟩
theorem kc_X3_setDamp : Cond.code yX3_setDamp cX3_setDamp 4 (some .int) ∈ wAll := kAll 407 (by decide +kernel) (by decide +kernel)
theorem kst_97 : (RX3, 97, "weekday is not 0 to 6") ∈ gStr := by decide +kernel
theorem kst_99 : (RX3, 99, "damp is not 0 to 5") ∈ gStr := by decide +kernel
theorem kc_X3_play : Cond.code yX3_play cX3_play 4 (some .int) ∈ wAll := kAll 416 (by decide +kernel) (by decide +kernel)
theorem km_X3_109 : Cond.methodLink RX3 109 yX1_isPermittedOn ∈ wAll := kAll 418 (by decide +kernel) (by decide +kernel)
theorem kl_X3_109 : gLkV RX3 109 RX1 yX1_isPermittedOn cX1_isPermittedOn 2 (some .boolean) 1 := ⟨km_X3_109, kj_X1_isPermittedOn, ks_X1_isPermittedOn, ki_X1, kc_X1_isPermittedOn, by decide +kernel⟩
theorem kf_X3_121 : Cond.fieldLink RX3 121 (TX1 3).1 (TX1 3).2.1 (TX1 3).2.2.1 ∈ wAll := kAll 99 (by decide +kernel) (by decide +kernel)
theorem kf_X3_124 : Cond.fieldLink RX3 124 (TX1 0).1 (TX1 0).2.1 (TX1 0).2.2.1 ∈ wAll := kAll 93 (by decide +kernel) (by decide +kernel)
theorem km_X3_127 : Cond.methodLink RX3 127 yX2_wearDown ∈ wAll := kAll 424 (by decide +kernel) (by decide +kernel)
theorem kj_X2_wearDown : Cond.instanceMethod yX2_wearDown ∈ wAll := kAll 425 (by decide +kernel) (by decide +kernel)
theorem ks_X2_wearDown : Cond.selects RX2 yX2_wearDown yX2_wearDown ∈ wAll := kAll 426 (by decide +kernel) (by decide +kernel)
theorem kl_X3_127 : gLkV RX3 127 RX2 yX2_wearDown cX2_wearDown 3 none 1 := ⟨km_X3_127, kj_X2_wearDown, ks_X2_wearDown, ki_X2, kc_X2_wearDown, by decide +kernel⟩
theorem km_X3_113 : Cond.methodLink RX3 113 yX3_payFine ∈ wAll := kAll 419 (by decide +kernel) (by decide +kernel)
theorem kj_X3_payFine : Cond.instanceMethod yX3_payFine ∈ wAll := kAll 421 (by decide +kernel) (by decide +kernel)
theorem ks_X3_payFine : Cond.selects RX3 yX3_payFine yX3_payFine ∈ wAll := kAll 7 (by decide +kernel) (by decide +kernel)
theorem kl_X3_113 : gLkV RX3 113 RX3 yX3_payFine cX3_payFine 2 (some .int) 0 := ⟨km_X3_113, kj_X3_payFine, ks_X3_payFine, ki_X3, kc_X3_payFine, by decide +kernel⟩
theorem kst_101 : (RX3, 101, "the tune has no notes") ∈ gStr := by decide +kernel
theorem kc_X3_tune : Cond.code yX3_tune cX3_tune 3 (some .int) ∈ wAll := kAll 438 (by decide +kernel) (by decide +kernel)
theorem kst_131 : (RX3, 131, "by is not -120 to 120") ∈ gStr := by decide +kernel
theorem km_X3_133 : Cond.methodLink RX3 133 yX0_shift ∈ wAll := kAll 440 (by decide +kernel) (by decide +kernel)
theorem kl_X3_133 : gLkV RX3 133 RX0 yX0_shift cX0_shift 3 none 2 := ⟨km_X3_133, kj_X0_shift, ks_X0_shift, ki_X0, kc_X0_shift, by decide +kernel⟩
theorem kf_X3_137 : Cond.fieldLink RX3 137 (TX0 1).1 (TX0 1).2.1 (TX0 1).2.2.1 ∈ wAll := kAll 52 (by decide +kernel) (by decide +kernel)
theorem kc_X3_felt : Cond.code yX3_felt cX3_felt 3 (some .int) ∈ wAll := kAll 453 (by decide +kernel) (by decide +kernel)
theorem kf_X3_142 : Cond.fieldLink RX3 142 (TX0 0).1 (TX0 0).2.1 (TX0 0).2.2.1 ∈ wAll := kAll 50 (by decide +kernel) (by decide +kernel)
theorem kst_140 : (RX3, 140, "there are less than 4 coins") ∈ gStr := by decide +kernel
theorem kc_X3_chase : Cond.code yX3_chase cX3_chase 2 (some .int) ∈ wAll := kAll 143 (by decide +kernel) (by decide +kernel)
theorem km_X3_145 : Cond.methodLink RX3 145 yX0_cricketCount ∈ wAll := kAll 144 (by decide +kernel) (by decide +kernel)
theorem kl_X3_145 : gLkV RX3 145 RX0 yX0_cricketCount cX0_cricketCount 3 (some .int) 0 := ⟨km_X3_145, kj_X0_cricketCount, ks_X0_cricketCount, ki_X0, kc_X0_cricketCount, by decide +kernel⟩
theorem km_X3_148 : Cond.methodLink RX3 148 yX0_clearCrickets ∈ wAll := kAll 148 (by decide +kernel) (by decide +kernel)
theorem kj_X0_clearCrickets : Cond.instanceMethod yX0_clearCrickets ∈ wAll := kAll 149 (by decide +kernel) (by decide +kernel)
theorem ks_X0_clearCrickets : Cond.selects RX0 yX0_clearCrickets yX0_clearCrickets ∈ wAll := kAll 150 (by decide +kernel) (by decide +kernel)
theorem kl_X3_148 : gLkV RX3 148 RX0 yX0_clearCrickets cX0_clearCrickets 2 none 0 := ⟨km_X3_148, kj_X0_clearCrickets, ks_X0_clearCrickets, ki_X0, kc_X0_clearCrickets, by decide +kernel⟩
theorem kc_X3_pipe : Cond.code yX3_pipe cX3_pipe 3 (some .int) ∈ wAll := kAll 461 (by decide +kernel) (by decide +kernel)
theorem kst_151 : (RX3, 151, "what is not 0 to 4") ∈ gStr := by decide +kernel
theorem km_X3_153 : Cond.methodLink RX3 153 yX0_tell ∈ wAll := kAll 206 (by decide +kernel) (by decide +kernel)
theorem kj_X0_tell : Cond.instanceMethod yX0_tell ∈ wAll := kAll 207 (by decide +kernel) (by decide +kernel)
theorem ks_X0_tell : Cond.selects RX0 yX0_tell yX0_tell ∈ wAll := kAll 208 (by decide +kernel) (by decide +kernel)
theorem kl_X3_153 : gLkV RX3 153 RX0 yX0_tell cX0_tell 3 (some .int) 2 := ⟨km_X3_153, kj_X0_tell, ks_X0_tell, ki_X0, kc_X0_tell, by decide +kernel⟩
theorem kc_X3_sound : Cond.code yX3_sound cX3_sound 2 (some .int) ∈ wAll := kAll 469 (by decide +kernel) (by decide +kernel)
theorem kc_X3_told : Cond.code yX3_told cX3_told 3 (some .int) ∈ wAll := kAll 476 (by decide +kernel) (by decide +kernel)
theorem kc_X3_count : Cond.code yX3_count cX3_count 2 (some .int) ∈ wAll := kAll 483 (by decide +kernel) (by decide +kernel)
theorem kst_161 : (RX3, 161, "what is not 0 to 8") ∈ gStr := by decide +kernel
theorem km_X3_163 : Cond.methodLink RX3 163 yX3_countNow ∈ wAll := kAll 179 (by decide +kernel) (by decide +kernel)
theorem kj_X3_countNow : Cond.instanceMethod yX3_countNow ∈ wAll := kAll 181 (by decide +kernel) (by decide +kernel)
theorem ks_X3_countNow : Cond.selects RX3 yX3_countNow yX3_countNow ∈ wAll := kAll 0 (by decide +kernel) (by decide +kernel)
theorem kl_X3_163 : gLkV RX3 163 RX3 yX3_countNow cX3_countNow 2 (some .int) 1 := ⟨km_X3_163, kj_X3_countNow, ks_X3_countNow, ki_X3, kc_X3_countNow, by decide +kernel⟩
theorem kc_X3_rest : Cond.code yX3_rest cX3_rest 4 (some .int) ∈ wAll := kAll 491 (by decide +kernel) (by decide +kernel)
theorem km_X3_166 : Cond.methodLink RX3 166 yX3_checkNights ∈ wAll := kAll 492 (by decide +kernel) (by decide +kernel)
theorem kt_X3_checkNights : Cond.static yX3_checkNights ∈ wAll := kAll 493 (by decide +kernel) (by decide +kernel)
theorem kl_X3_166 : gLkS RX3 166 yX3_checkNights cX3_checkNights 1 none 1 := ⟨km_X3_166, kt_X3_checkNights, ki_X3, kc_X3_checkNights, by decide +kernel⟩
theorem km_X3_169 : Cond.methodLink RX3 169 yX3_passNights ∈ wAll := kAll 496 (by decide +kernel) (by decide +kernel)
theorem kj_X3_passNights : Cond.instanceMethod yX3_passNights ∈ wAll := kAll 498 (by decide +kernel) (by decide +kernel)
theorem ks_X3_passNights : Cond.selects RX3 yX3_passNights yX3_passNights ∈ wAll := kAll 8 (by decide +kernel) (by decide +kernel)
theorem kl_X3_169 : gLkV RX3 169 RX3 yX3_passNights cX3_passNights 5 (some .int) 2 := ⟨km_X3_169, kj_X3_passNights, ks_X3_passNights, ki_X3, kc_X3_passNights, by decide +kernel⟩
theorem km_X3_173 : Cond.methodLink RX3 173 yX1_forgetDay ∈ wAll := kAll 505 (by decide +kernel) (by decide +kernel)
theorem kj_X1_forgetDay : Cond.instanceMethod yX1_forgetDay ∈ wAll := kAll 506 (by decide +kernel) (by decide +kernel)
theorem ks_X1_forgetDay : Cond.selects RX1 yX1_forgetDay yX1_forgetDay ∈ wAll := kAll 507 (by decide +kernel) (by decide +kernel)
theorem kl_X3_173 : gLkV RX3 173 RX1 yX1_forgetDay cX1_forgetDay 2 none 0 := ⟨km_X3_173, kj_X1_forgetDay, ks_X1_forgetDay, ki_X1, kc_X1_forgetDay, by decide +kernel⟩
theorem kc_X3_pays : Cond.code yX3_pays cX3_pays 3 (some .int) ∈ wAll := kAll 515 (by decide +kernel) (by decide +kernel)
theorem kc_X3_best : Cond.code yX3_best cX3_best 6 (some .int) ∈ wAll := kAll 522 (by decide +kernel) (by decide +kernel)
theorem kc_X3_worst : Cond.code yX3_worst cX3_worst 6 (some .int) ∈ wAll := kAll 529 (by decide +kernel) (by decide +kernel)
theorem km_X3_176 : Cond.methodLink RX3 176 yX2_soundSparing ∈ wAll := kAll 530 (by decide +kernel) (by decide +kernel)
theorem kl_X3_176 : gLkV RX3 176 RX2 yX2_soundSparing cX2_soundSparing 5 (some .int) 2 := ⟨km_X3_176, kj_X2_soundSparing, ks_X2_soundSparing, ki_X2, kc_X2_soundSparing, by decide +kernel⟩
theorem kc_X3_foresee : Cond.code yX3_foresee cX3_foresee 3 (some .int) ∈ wAll := kAll 537 (by decide +kernel) (by decide +kernel)
theorem kst_179 : (RX3, 179, "what is not 5 to 7") ∈ gStr := by decide +kernel
theorem kf_X3_16 : Cond.fieldLink RX3 16 (TX3 1).1 (TX3 1).2.1 (TX3 1).2.2.1 ∈ wAll := kAll 110 (by decide +kernel) (by decide +kernel)
theorem km_X3_181 : Cond.methodLink RX3 181 yX0_become ∈ wAll := kAll 539 (by decide +kernel) (by decide +kernel)
theorem kj_X0_become : Cond.instanceMethod yX0_become ∈ wAll := kAll 540 (by decide +kernel) (by decide +kernel)
theorem ks_X0_become : Cond.selects RX0 yX0_become yX0_become ∈ wAll := kAll 541 (by decide +kernel) (by decide +kernel)
theorem kl_X3_181 : gLkV RX3 181 RX0 yX0_become cX0_become 3 none 1 := ⟨km_X3_181, kj_X0_become, ks_X0_become, ki_X0, kc_X0_become, by decide +kernel⟩
theorem kc_X3_lasts : Cond.code yX3_lasts cX3_lasts 3 (some .int) ∈ wAll := kAll 549 (by decide +kernel) (by decide +kernel)
theorem kc_X3_mean : Cond.code yX3_mean cX3_mean 3 (some .double) ∈ wAll := kAll 155 (by decide +kernel) (by decide +kernel)
theorem kc_X3_digest : Cond.code yX3_digest cX3_digest 5 (some .long) ∈ wAll := kAll 177 (by decide +kernel) (by decide +kernel)
theorem kL_X3_187 : Cond.constantLong RX3 187 1097 ∈ wAll := kAll 178 (by decide +kernel) (by decide +kernel)
theorem km_X3_197 : Cond.methodLink RX3 197 yX3_mixStreet ∈ wAll := kAll 215 (by decide +kernel) (by decide +kernel)
theorem kj_X3_mixStreet : Cond.instanceMethod yX3_mixStreet ∈ wAll := kAll 217 (by decide +kernel) (by decide +kernel)
theorem ks_X3_mixStreet : Cond.selects RX3 yX3_mixStreet yX3_mixStreet ∈ wAll := kAll 2 (by decide +kernel) (by decide +kernel)
theorem kl_X3_197 : gLkV RX3 197 RX3 yX3_mixStreet cX3_mixStreet 7 (some .long) 2 := ⟨km_X3_197, kj_X3_mixStreet, ks_X3_mixStreet, ki_X3, kc_X3_mixStreet, by decide +kernel⟩
theorem km_X3_193 : Cond.methodLink RX3 193 yX3_mixTune ∈ wAll := kAll 211 (by decide +kernel) (by decide +kernel)
theorem kj_X3_mixTune : Cond.instanceMethod yX3_mixTune ∈ wAll := kAll 213 (by decide +kernel) (by decide +kernel)
theorem ks_X3_mixTune : Cond.selects RX3 yX3_mixTune yX3_mixTune ∈ wAll := kAll 1 (by decide +kernel) (by decide +kernel)
theorem kl_X3_193 : gLkV RX3 193 RX3 yX3_mixTune cX3_mixTune 7 (some .long) 2 := ⟨km_X3_193, kj_X3_mixTune, ks_X3_mixTune, ki_X3, kc_X3_mixTune, by decide +kernel⟩
end
section
set_option maxHeartbeats 1000000 in
set_option maxRecDepth 100000 in
theorem c_X0_harmOf (l : Launch) (D : va_G) (cy : Nat → ClassId) (ad : Nat → Nat) (ρ : Nat → Nat → Int32) (b i : Nat) (hb : isP b) (hi : i < 12) : gMI l yX0_harmOf cX0_harmOf 2 (some .int) { frames := 1, cells := 0, slots := 0, locals := 21 } D cy 48 ad (cC ad cy) [.ref (ad b), .int (nI i)] ρ (fun r ρ1 => r = hP ρ b i ∧ ρ1 = ρ) 0 0 := by
  refine gMI_of (ls := [(0, .ref (ad b)), (1, .int (nI i))]) RX0 rfl (by decide +kernel) (Nat.le_of_ble_eq_true rfl) rfl ?_
  intro p e s m args below meth c A X hr hlk hnm
  have hb9 := isP_lt hb
  refine g_aload_n X dX0_harmOf_0 0 rfl rfl ?_
  refine g_getr X b (by omega) 2 (by decide) ku_X0 kv_X0 kf_X0_18 rfl (lC_f_cri hb) dX0_harmOf_1 ?_
  refine g_iload_n X dX0_harmOf_4 1 rfl rfl ?_
  refine g_zaldN X (b + 3) i (by omega) (lC_cri hb) (by omega) (by decide) dX0_harmOf_5 ?_
  refine g_if_eq X 12 dX0_harmOf_6 (by decide) (fun c_1 => ?_) (fun c_1 => ?_)
  · skip
    refine g_bipush X (v := 60) dX0_harmOf_12 (by decide) ?_
    refine g_aload_n X dX0_harmOf_14 0 rfl rfl ?_
    refine g_getr X b (by omega) 1 (by decide) ku_X0 kv_X0 kf_X0_15 rfl (lC_f_off hb) dX0_harmOf_15 ?_
    refine g_iload_n X dX0_harmOf_18 1 rfl rfl ?_
    refine g_ialdN X (b + 2) i (by omega) (lC_off hb) (by omega) (by decide) dX0_harmOf_19 ?_
    refine g_mabs X km_X0_25 kt_mabs ki_math kc_mabs ⟨Nat.le_of_ble_eq_true rfl, Nat.le_of_ble_eq_true rfl, by omega, by omega⟩ dX0_harmOf_20 ?_
    refine g_iconst X (v := 2) dX0_harmOf_23 (by decide) ?_
    refine g_aload_n X dX0_harmOf_24 0 rfl rfl ?_
    refine g_getr X b (by omega) 0 (by decide) ku_X0 kv_X0 kf_X0_9 rfl (lC_f_worn hb) dX0_harmOf_25 ?_
    refine g_iload_n X dX0_harmOf_28 1 rfl rfl ?_
    refine g_ialdN X (b + 1) i (by omega) (lC_worn hb) (by omega) (by decide) dX0_harmOf_29 ?_
    refine g_imul X dX0_harmOf_30 ?_
    refine g_iadd X dX0_harmOf_31 ?_
    refine g_mmin X km_X0_31 kt_mmin ki_math kc_mmin ⟨Nat.le_of_ble_eq_true rfl, Nat.le_of_ble_eq_true rfl, by omega, by omega⟩ dX0_harmOf_32 ?_
    exact g_iret X hr hlk (by omega) (by omega) dX0_harmOf_35 (⟨by simp only [hP, hm]; rw [if_pos c_1]; rfl, rfl⟩)
  · skip
    refine g_bipush X (v := 60) dX0_harmOf_9 (by decide) ?_
    exact g_iret X hr hlk (by omega) (by omega) dX0_harmOf_11 (⟨by simp only [hP, hm]; rw [if_neg c_1], rfl⟩)

set_option maxHeartbeats 1000000 in
set_option maxRecDepth 100000 in
theorem c_X0_wear (l : Launch) (D : va_G) (cy : Nat → ClassId) (ad : Nat → Nat) (ρ : Nat → Nat → Int32) (b i : Nat) (y : Int32) (hb : isP b) (hi : i < 12) : gMV l yX0_wear cX0_wear 3 none { frames := 1, cells := 0, slots := 0, locals := 21 } D cy 48 ad (cC ad cy) [.ref (ad b), .int (nI i), .int y] ρ (fun ρ1 => ρ1 = up2 (up2 ρ (b + 1) i (mnI 30 (ρ (b + 1) i + y))) (b + 4) i 1) 0 0 := by
  refine gMV_of (ls := [(0, .ref (ad b)), (1, .int (nI i)), (2, .int y)]) RX0 rfl (by decide +kernel) (Nat.le_of_ble_eq_true rfl) rfl ?_
  intro p e s m args below meth c A X hr hlk hnm
  have hb9 := isP_lt hb
  refine g_aload_n X dX0_wear_0 0 rfl rfl ?_
  refine g_getr X b (by omega) 0 (by decide) ku_X0 kv_X0 kf_X0_9 rfl (lC_f_worn hb) dX0_wear_1 ?_
  refine g_iload_n X dX0_wear_4 1 rfl rfl ?_
  refine g_bipush X (v := 30) dX0_wear_5 (by decide) ?_
  refine g_aload_n X dX0_wear_7 0 rfl rfl ?_
  refine g_getr X b (by omega) 0 (by decide) ku_X0 kv_X0 kf_X0_9 rfl (lC_f_worn hb) dX0_wear_8 ?_
  refine g_iload_n X dX0_wear_11 1 rfl rfl ?_
  refine g_ialdN X (b + 1) i (by omega) (lC_worn hb) (by omega) (by decide) dX0_wear_12 ?_
  refine g_iload_n X dX0_wear_13 2 rfl rfl ?_
  refine g_iadd X dX0_wear_14 ?_
  refine g_mmin X km_X0_31 kt_mmin ki_math kc_mmin ⟨Nat.le_of_ble_eq_true rfl, Nat.le_of_ble_eq_true rfl, by omega, by omega⟩ dX0_wear_15 ?_
  refine g_iastN X (b + 1) i (by omega) (lC_worn hb) (by omega) (by decide) dX0_wear_18 (fun ρ_1 eρ_1 => ?_)
  refine g_aload_n X dX0_wear_19 0 rfl rfl ?_
  refine g_getr X b (by omega) 3 (by decide) ku_X0 kv_X0 kf_X0_22 rfl (lC_f_pla hb) dX0_wear_20 ?_
  refine g_iload_n X dX0_wear_23 1 rfl rfl ?_
  refine g_iconst X (v := 1) dX0_wear_24 (by decide) ?_
  refine g_zastN X (b + 4) i (by omega) (lC_pla hb) vp_z1 (by omega) (by decide) dX0_wear_25 (fun ρ_2 eρ_2 => ?_)
  exact g_vret X hr hlk (by omega) (by omega) dX0_wear_26 (by subst_vars; first | rfl | exact ⟨rfl, rfl⟩)

set_option maxHeartbeats 1000000 in
set_option maxRecDepth 100000 in
theorem c_X0_shift (l : Launch) (D : va_G) (cy : Nat → ClassId) (ad : Nat → Nat) (ρ : Nat → Nat → Int32) (b i : Nat) (y : Int32) (hb : isP b) (hi : i < 12) : gMV l yX0_shift cX0_shift 3 none { frames := 1, cells := 0, slots := 0, locals := 21 } D cy 48 ad (cC ad cy) [.ref (ad b), .int (nI i), .int y] ρ (fun ρ1 => ρ1 = up2 ρ (b + 2) i (hd (ρ (b + 2) i + y))) 0 0 := by
  refine gMV_of (ls := [(0, .ref (ad b)), (1, .int (nI i)), (2, .int y)]) RX0 rfl (by decide +kernel) (Nat.le_of_ble_eq_true rfl) rfl ?_
  intro p e s m args below meth c A X hr hlk hnm
  have hb9 := isP_lt hb
  refine g_aload_n X dX0_shift_0 0 rfl rfl ?_
  refine g_getr X b (by omega) 1 (by decide) ku_X0 kv_X0 kf_X0_15 rfl (lC_f_off hb) dX0_shift_1 ?_
  refine g_iload_n X dX0_shift_4 1 rfl rfl ?_
  refine g_bipush X (v := -60) dX0_shift_5 (by decide) ?_
  refine g_bipush X (v := 60) dX0_shift_7 (by decide) ?_
  refine g_aload_n X dX0_shift_9 0 rfl rfl ?_
  refine g_getr X b (by omega) 1 (by decide) ku_X0 kv_X0 kf_X0_15 rfl (lC_f_off hb) dX0_shift_10 ?_
  refine g_iload_n X dX0_shift_13 1 rfl rfl ?_
  refine g_ialdN X (b + 2) i (by omega) (lC_off hb) (by omega) (by decide) dX0_shift_14 ?_
  refine g_iload_n X dX0_shift_15 2 rfl rfl ?_
  refine g_iadd X dX0_shift_16 ?_
  refine g_mmin X km_X0_31 kt_mmin ki_math kc_mmin ⟨Nat.le_of_ble_eq_true rfl, Nat.le_of_ble_eq_true rfl, by omega, by omega⟩ dX0_shift_17 ?_
  refine g_mmax X km_X0_35 kt_mmax ki_math kc_mmax ⟨Nat.le_of_ble_eq_true rfl, Nat.le_of_ble_eq_true rfl, by omega, by omega⟩ dX0_shift_20 ?_
  refine g_iastN X (b + 2) i (by omega) (lC_off hb) (by omega) (by decide) dX0_shift_23 (fun ρ_1 eρ_1 => ?_)
  exact g_vret X hr hlk (by omega) (by omega) dX0_shift_24 (by subst_vars; first | rfl | exact ⟨rfl, rfl⟩)

set_option maxHeartbeats 1000000 in
set_option maxRecDepth 100000 in
theorem c_X0_become (l : Launch) (D : va_G) (cy : Nat → ClassId) (ad : Nat → Nat) (ρ : Nat → Nat → Int32) (h01 : ∀ j, j < 12 → (ρ 4 j = 0 ∨ ρ 4 j = 1) ∧ (ρ 5 j = 0 ∨ ρ 5 j = 1)) : gMV l yX0_become cX0_become 3 none { frames := 0, cells := 0, slots := 0, locals := 0 } D cy 48 ad (cC ad cy) [.ref (ad 6), .ref (ad 1)] ρ (fun ρ1 => ρ1 = becR ρ 12) 0 0 := by
  refine gMV_of (ls := [(0, .ref (ad 6)), (1, .ref (ad 1))]) RX0 rfl (by decide +kernel) (Nat.le_of_ble_eq_true rfl) rfl ?_
  intro p e s m args below meth c A X hr hlk hnm
  refine g_iconst X (v := 0) dX0_become_0 (by decide) ?_
  refine g_istore_n X [(2, .int _), (0, .ref _), (1, .ref _)] dX0_become_1 rfl (by decide) rfl ?_
  refine g_ls (ls' := [(0, .ref _), (1, .ref _), (2, .int _)]) [1, 2, 0] rfl ?_
  refine g_loop (fun _ => True) (fun i => becR ρ i) (fun i => [(0, .ref (ad 6)), (1, .ref (ad 1)), (2, .int (nI i))]) (fun _ => 0) (fun _ => 0) 12 0 trivial (by omega) rfl (by funext k j; simp [becR]) rfl rfl (fun i h0i hi hIi ihi => ?_)
  obtain ⟨ρ_1, eρ_1⟩ : ∃ ρz, ρz = becR ρ i := ⟨_, rfl⟩
  rw [← eρ_1]
  refine g_iload_n X dX0_become_2 2 rfl rfl ?_
  refine g_bipush X (v := 12) dX0_become_3 (by decide) ?_
  refine g_icmp_geN X i 12 62 (by omega) (by omega) dX0_become_5 (by decide) (fun c_2 => ?_) (fun c_2 => ?_)
  · skip
    exact g_vret X hr hlk (by omega) (by omega) dX0_become_62 (by subst_vars; rw [show i = 12 by omega])
  · skip
    refine g_aload_n X dX0_become_8 0 rfl rfl ?_
    refine g_getr X 6 (by omega) 0 (by decide) ku_X0 kv_X0 kf_X0_9 rfl (lC_f_worn (Or.inr rfl)) dX0_become_9 ?_
    refine g_iload_n X dX0_become_12 2 rfl rfl ?_
    refine g_aload_n X dX0_become_13 1 rfl rfl ?_
    refine g_getr X 1 (by omega) 0 (by decide) ku_X0 kv_X0 kf_X0_9 rfl (lC_f_worn (Or.inl rfl)) dX0_become_14 ?_
    refine g_iload_n X dX0_become_17 2 rfl rfl ?_
    refine g_ialdN X (1 + 1) i (by omega) (lC_worn (Or.inl rfl)) (by omega) (by decide) dX0_become_18 ?_
    refine g_iastN X (6 + 1) i (by omega) (lC_worn (Or.inr rfl)) (by omega) (by decide) dX0_become_19 (fun ρ_3 eρ_3 => ?_)
    refine g_aload_n X dX0_become_20 0 rfl rfl ?_
    refine g_getr X 6 (by omega) 1 (by decide) ku_X0 kv_X0 kf_X0_15 rfl (lC_f_off (Or.inr rfl)) dX0_become_21 ?_
    refine g_iload_n X dX0_become_24 2 rfl rfl ?_
    refine g_aload_n X dX0_become_25 1 rfl rfl ?_
    refine g_getr X 1 (by omega) 1 (by decide) ku_X0 kv_X0 kf_X0_15 rfl (lC_f_off (Or.inl rfl)) dX0_become_26 ?_
    refine g_iload_n X dX0_become_29 2 rfl rfl ?_
    refine g_ialdN X (1 + 2) i (by omega) (lC_off (Or.inl rfl)) (by omega) (by decide) dX0_become_30 ?_
    refine g_iastN X (6 + 2) i (by omega) (lC_off (Or.inr rfl)) (by omega) (by decide) dX0_become_31 (fun ρ_4 eρ_4 => ?_)
    refine g_aload_n X dX0_become_32 0 rfl rfl ?_
    refine g_getr X 6 (by omega) 2 (by decide) ku_X0 kv_X0 kf_X0_18 rfl (lC_f_cri (Or.inr rfl)) dX0_become_33 ?_
    refine g_iload_n X dX0_become_36 2 rfl rfl ?_
    refine g_aload_n X dX0_become_37 1 rfl rfl ?_
    refine g_getr X 1 (by omega) 2 (by decide) ku_X0 kv_X0 kf_X0_18 rfl (lC_f_cri (Or.inl rfl)) dX0_become_38 ?_
    refine g_iload_n X dX0_become_41 2 rfl rfl ?_
    refine g_zaldN X (1 + 3) i (by omega) (lC_cri (Or.inl rfl)) (by omega) (by decide) dX0_become_42 ?_
    refine g_zastN X (6 + 3) i (by omega) (lC_cri (Or.inr rfl)) (vp_z01 (by subst_vars; simp only [up2_e, becR]; have := h01 i (by omega); simp; exact this.1)) (by omega) (by decide) dX0_become_43 (fun ρ_5 eρ_5 => ?_)
    refine g_aload_n X dX0_become_44 0 rfl rfl ?_
    refine g_getr X 6 (by omega) 3 (by decide) ku_X0 kv_X0 kf_X0_22 rfl (lC_f_pla (Or.inr rfl)) dX0_become_45 ?_
    refine g_iload_n X dX0_become_48 2 rfl rfl ?_
    refine g_aload_n X dX0_become_49 1 rfl rfl ?_
    refine g_getr X 1 (by omega) 3 (by decide) ku_X0 kv_X0 kf_X0_22 rfl (lC_f_pla (Or.inl rfl)) dX0_become_50 ?_
    refine g_iload_n X dX0_become_53 2 rfl rfl ?_
    refine g_zaldN X (1 + 4) i (by omega) (lC_pla (Or.inl rfl)) (by omega) (by decide) dX0_become_54 ?_
    refine g_zastN X (6 + 4) i (by omega) (lC_pla (Or.inr rfl)) (vp_z01 (by subst_vars; simp only [up2_e, becR]; have := h01 i (by omega); simp; exact this.2)) (by omega) (by decide) dX0_become_55 (fun ρ_6 eρ_6 => ?_)
    refine g_iincN X i 2 [(2, .int _), (0, .ref _), (1, .ref _)] 2 dX0_become_56 rfl (by decide) rfl ?_
    refine g_goto X 2 dX0_become_59 (by decide) ?_
    refine g_ls (ls' := [(0, .ref _), (1, .ref _), (2, .int _)]) [1, 2, 0] rfl ?_
    exact g_eqv (ihi (by omega) trivial) (rfl) (by subst_vars; funext k j; simp only [up2_e, becR]; grind) rfl rfl

set_option maxHeartbeats 1000000 in
set_option maxRecDepth 100000 in
theorem c_X0_passNight (l : Launch) (D : va_G) (cy : Nat → ClassId) (ad : Nat → Nat) (ρ : Nat → Nat → Int32) (b : Nat) (d : Int32) (hb : isP b) : gMI l yX0_passNight cX0_passNight 4 (some .int) { frames := 2, cells := 0, slots := 0, locals := 43 } D cy 48 ad (cC ad cy) [.ref (ad b), .int d] ρ (fun r ρ1 => r = sumI (cmB ρ b) 12 ∧ ρ1 = ntR ρ b d 12) 0 0 := by
  refine gMI_of (ls := [(0, .ref (ad b)), (1, .int d)]) RX0 rfl (by decide +kernel) (Nat.le_of_ble_eq_true rfl) rfl ?_
  intro p e s m args below meth c A X hr hlk hnm
  have hb9 := isP_lt hb
  refine g_iconst X (v := 0) dX0_passNight_0 (by decide) ?_
  refine g_istore_n X [(2, .int _), (0, .ref _), (1, .int _)] dX0_passNight_1 rfl (by decide) rfl ?_
  refine g_iconst X (v := 0) dX0_passNight_2 (by decide) ?_
  refine g_istore_n X [(3, .int _), (2, .int _), (0, .ref _), (1, .int _)] dX0_passNight_3 rfl (by decide) rfl ?_
  refine g_ls (ls' := [(0, .ref _), (1, .int _), (2, .int _), (3, .int _)]) [2, 3, 1, 0] rfl ?_
  refine g_loop (fun _ => True) (fun i => ntR ρ b d i) (fun i => [(0, .ref (ad b)), (1, .int d), (2, .int (sumI (cmB ρ b) i)), (3, .int (nI i))]) (fun _ => 0) (fun _ => 0) 12 0 trivial (by omega) rfl (by funext k j; simp [ntR]) rfl rfl (fun i h0i hi hIi ihi => ?_)
  obtain ⟨ρ_1, eρ_1⟩ : ∃ ρz, ρz = ntR ρ b d i := ⟨_, rfl⟩
  rw [← eρ_1]
  refine g_iload_n X dX0_passNight_4 3 rfl rfl ?_
  refine g_bipush X (v := 12) dX0_passNight_5 (by decide) ?_
  refine g_icmp_geN X i 12 79 (by omega) (by omega) dX0_passNight_7 (by decide) (fun c_2 => ?_) (fun c_2 => ?_)
  · skip
    refine g_iload_n X dX0_passNight_79 2 rfl rfl ?_
    exact g_iret X hr hlk (by omega) (by omega) dX0_passNight_80 (by subst_vars; rw [show i = 12 by omega]; exact ⟨rfl, rfl⟩)
  · skip
    refine g_aload_n X dX0_passNight_10 0 rfl rfl ?_
    refine g_getr X b (by omega) 0 (by decide) ku_X0 kv_X0 kf_X0_9 rfl (lC_f_worn hb) dX0_passNight_11 ?_
    refine g_iload_n X dX0_passNight_14 3 rfl rfl ?_
    refine g_ialdN X (b + 1) i (by omega) (lC_worn hb) (by omega) (by decide) dX0_passNight_15 ?_
    rw [show ρ_1 (b + 1) i = ρ (b + 1) i by subst_vars; simp [ntR]]
    refine g_bipush X (v := 10) dX0_passNight_16 (by decide) ?_
    refine g_icmp_lt X 49 dX0_passNight_18 (by decide) (fun c_3 => ?_) (fun c_3 => ?_)
    · skip
      refine g_aload_n X dX0_passNight_49 0 rfl rfl ?_
      refine g_iload_n X dX0_passNight_50 3 rfl rfl ?_
      refine g_iload_n X dX0_passNight_51 3 rfl rfl ?_
      refine g_iconst X (v := 2) dX0_passNight_52 (by decide) ?_
      refine g_irem X dX0_passNight_53 (by decide) ?_
      rw [remN (by omega)]
      refine g_if_ne X 61 dX0_passNight_54 (by decide) (fun c_4 => ?_) (fun c_4 => ?_)
      · skip
        refine g_iload_n X dX0_passNight_61 1 rfl rfl ?_
        refine g_ineg X dX0_passNight_62 ?_
        refine g_mcallVv X b (c_X0_shift l D cy ad ρ_1 b i _ hb (by omega)) kl_X0_38 ⟨rfl, rfl, Nat.le_of_ble_eq_true rfl, Nat.le_of_ble_eq_true rfl⟩ (by omega) (lC_P hb) kv_X0 rfl rfl (Nat.le_of_ble_eq_true rfl) dX0_passNight_63 ⟨Nat.le_of_ble_eq_true rfl, Nat.le_of_ble_eq_true rfl⟩ (fun ρ_5 h_7 => ?_)
        refine g_aload_n X dX0_passNight_66 0 rfl rfl ?_
        refine g_getr X b (by omega) 3 (by decide) ku_X0 kv_X0 kf_X0_22 rfl (lC_f_pla hb) dX0_passNight_67 ?_
        refine g_iload_n X dX0_passNight_70 3 rfl rfl ?_
        refine g_iconst X (v := 0) dX0_passNight_71 (by decide) ?_
        refine g_zastN X (b + 4) i (by omega) (lC_pla hb) vp_z0 (by omega) (by decide) dX0_passNight_72 (fun ρ_8 eρ_8 => ?_)
        refine g_iincN X i 3 [(3, .int _), (0, .ref _), (1, .int _), (2, .int _)] 3 dX0_passNight_73 rfl (by decide) rfl ?_
        refine g_goto X 4 dX0_passNight_76 (by decide) ?_
        refine g_ls (ls' := [(0, .ref _), (1, .int _), (2, .int _), (3, .int _)]) [1, 2, 3, 0] rfl ?_
        exact g_eqv (ihi (by omega) trivial) (by simp only [sumI, cmB, *, ↓reduceIte, Int32.add_zero]) (by subst_vars; funext k j; simp only [up2_e, ntR, cmB, par] at *; grind) rfl rfl
      · skip
        refine g_iload_n X dX0_passNight_57 1 rfl rfl ?_
        refine g_goto X 63 dX0_passNight_58 (by decide) ?_
        refine g_mcallVv X b (c_X0_shift l D cy ad ρ_1 b i _ hb (by omega)) kl_X0_38 ⟨rfl, rfl, Nat.le_of_ble_eq_true rfl, Nat.le_of_ble_eq_true rfl⟩ (by omega) (lC_P hb) kv_X0 rfl rfl (Nat.le_of_ble_eq_true rfl) dX0_passNight_63 ⟨Nat.le_of_ble_eq_true rfl, Nat.le_of_ble_eq_true rfl⟩ (fun ρ_9 h_11 => ?_)
        refine g_aload_n X dX0_passNight_66 0 rfl rfl ?_
        refine g_getr X b (by omega) 3 (by decide) ku_X0 kv_X0 kf_X0_22 rfl (lC_f_pla hb) dX0_passNight_67 ?_
        refine g_iload_n X dX0_passNight_70 3 rfl rfl ?_
        refine g_iconst X (v := 0) dX0_passNight_71 (by decide) ?_
        refine g_zastN X (b + 4) i (by omega) (lC_pla hb) vp_z0 (by omega) (by decide) dX0_passNight_72 (fun ρ_12 eρ_12 => ?_)
        refine g_iincN X i 3 [(3, .int _), (0, .ref _), (1, .int _), (2, .int _)] 3 dX0_passNight_73 rfl (by decide) rfl ?_
        refine g_goto X 4 dX0_passNight_76 (by decide) ?_
        refine g_ls (ls' := [(0, .ref _), (1, .int _), (2, .int _), (3, .int _)]) [1, 2, 3, 0] rfl ?_
        exact g_eqv (ihi (by omega) trivial) (by simp only [sumI, cmB, *, ↓reduceIte, Int32.add_zero]) (by subst_vars; funext k j; simp only [up2_e, ntR, cmB, par] at *; grind) rfl rfl
    · skip
      refine g_aload_n X dX0_passNight_21 0 rfl rfl ?_
      refine g_getr X b (by omega) 3 (by decide) ku_X0 kv_X0 kf_X0_22 rfl (lC_f_pla hb) dX0_passNight_22 ?_
      refine g_iload_n X dX0_passNight_25 3 rfl rfl ?_
      refine g_zaldN X (b + 4) i (by omega) (lC_pla hb) (by omega) (by decide) dX0_passNight_26 ?_
      rw [show ρ_1 (b + 4) i = ρ (b + 4) i by subst_vars; simp [ntR]]
      refine g_if_ne X 49 dX0_passNight_27 (by decide) (fun c_13 => ?_) (fun c_13 => ?_)
      · skip
        refine g_aload_n X dX0_passNight_49 0 rfl rfl ?_
        refine g_iload_n X dX0_passNight_50 3 rfl rfl ?_
        refine g_iload_n X dX0_passNight_51 3 rfl rfl ?_
        refine g_iconst X (v := 2) dX0_passNight_52 (by decide) ?_
        refine g_irem X dX0_passNight_53 (by decide) ?_
        rw [remN (by omega)]
        refine g_if_ne X 61 dX0_passNight_54 (by decide) (fun c_14 => ?_) (fun c_14 => ?_)
        · skip
          refine g_iload_n X dX0_passNight_61 1 rfl rfl ?_
          refine g_ineg X dX0_passNight_62 ?_
          refine g_mcallVv X b (c_X0_shift l D cy ad ρ_1 b i _ hb (by omega)) kl_X0_38 ⟨rfl, rfl, Nat.le_of_ble_eq_true rfl, Nat.le_of_ble_eq_true rfl⟩ (by omega) (lC_P hb) kv_X0 rfl rfl (Nat.le_of_ble_eq_true rfl) dX0_passNight_63 ⟨Nat.le_of_ble_eq_true rfl, Nat.le_of_ble_eq_true rfl⟩ (fun ρ_15 h_17 => ?_)
          refine g_aload_n X dX0_passNight_66 0 rfl rfl ?_
          refine g_getr X b (by omega) 3 (by decide) ku_X0 kv_X0 kf_X0_22 rfl (lC_f_pla hb) dX0_passNight_67 ?_
          refine g_iload_n X dX0_passNight_70 3 rfl rfl ?_
          refine g_iconst X (v := 0) dX0_passNight_71 (by decide) ?_
          refine g_zastN X (b + 4) i (by omega) (lC_pla hb) vp_z0 (by omega) (by decide) dX0_passNight_72 (fun ρ_18 eρ_18 => ?_)
          refine g_iincN X i 3 [(3, .int _), (0, .ref _), (1, .int _), (2, .int _)] 3 dX0_passNight_73 rfl (by decide) rfl ?_
          refine g_goto X 4 dX0_passNight_76 (by decide) ?_
          refine g_ls (ls' := [(0, .ref _), (1, .int _), (2, .int _), (3, .int _)]) [1, 2, 3, 0] rfl ?_
          exact g_eqv (ihi (by omega) trivial) (by simp only [sumI, cmB, *, ↓reduceIte, Int32.add_zero]) (by subst_vars; funext k j; simp only [up2_e, ntR, cmB, par] at *; grind) rfl rfl
        · skip
          refine g_iload_n X dX0_passNight_57 1 rfl rfl ?_
          refine g_goto X 63 dX0_passNight_58 (by decide) ?_
          refine g_mcallVv X b (c_X0_shift l D cy ad ρ_1 b i _ hb (by omega)) kl_X0_38 ⟨rfl, rfl, Nat.le_of_ble_eq_true rfl, Nat.le_of_ble_eq_true rfl⟩ (by omega) (lC_P hb) kv_X0 rfl rfl (Nat.le_of_ble_eq_true rfl) dX0_passNight_63 ⟨Nat.le_of_ble_eq_true rfl, Nat.le_of_ble_eq_true rfl⟩ (fun ρ_19 h_21 => ?_)
          refine g_aload_n X dX0_passNight_66 0 rfl rfl ?_
          refine g_getr X b (by omega) 3 (by decide) ku_X0 kv_X0 kf_X0_22 rfl (lC_f_pla hb) dX0_passNight_67 ?_
          refine g_iload_n X dX0_passNight_70 3 rfl rfl ?_
          refine g_iconst X (v := 0) dX0_passNight_71 (by decide) ?_
          refine g_zastN X (b + 4) i (by omega) (lC_pla hb) vp_z0 (by omega) (by decide) dX0_passNight_72 (fun ρ_22 eρ_22 => ?_)
          refine g_iincN X i 3 [(3, .int _), (0, .ref _), (1, .int _), (2, .int _)] 3 dX0_passNight_73 rfl (by decide) rfl ?_
          refine g_goto X 4 dX0_passNight_76 (by decide) ?_
          refine g_ls (ls' := [(0, .ref _), (1, .int _), (2, .int _), (3, .int _)]) [1, 2, 3, 0] rfl ?_
          exact g_eqv (ihi (by omega) trivial) (by simp only [sumI, cmB, *, ↓reduceIte, Int32.add_zero]) (by subst_vars; funext k j; simp only [up2_e, ntR, cmB, par] at *; grind) rfl rfl
      · skip
        refine g_aload_n X dX0_passNight_30 0 rfl rfl ?_
        refine g_getr X b (by omega) 2 (by decide) ku_X0 kv_X0 kf_X0_18 rfl (lC_f_cri hb) dX0_passNight_31 ?_
        refine g_iload_n X dX0_passNight_34 3 rfl rfl ?_
        refine g_zaldN X (b + 3) i (by omega) (lC_cri hb) (by omega) (by decide) dX0_passNight_35 ?_
        rw [show ρ_1 (b + 3) i = ρ (b + 3) i by subst_vars; simp [ntR]]
        refine g_if_ne X 49 dX0_passNight_36 (by decide) (fun c_23 => ?_) (fun c_23 => ?_)
        · skip
          refine g_aload_n X dX0_passNight_49 0 rfl rfl ?_
          refine g_iload_n X dX0_passNight_50 3 rfl rfl ?_
          refine g_iload_n X dX0_passNight_51 3 rfl rfl ?_
          refine g_iconst X (v := 2) dX0_passNight_52 (by decide) ?_
          refine g_irem X dX0_passNight_53 (by decide) ?_
          rw [remN (by omega)]
          refine g_if_ne X 61 dX0_passNight_54 (by decide) (fun c_24 => ?_) (fun c_24 => ?_)
          · skip
            refine g_iload_n X dX0_passNight_61 1 rfl rfl ?_
            refine g_ineg X dX0_passNight_62 ?_
            refine g_mcallVv X b (c_X0_shift l D cy ad ρ_1 b i _ hb (by omega)) kl_X0_38 ⟨rfl, rfl, Nat.le_of_ble_eq_true rfl, Nat.le_of_ble_eq_true rfl⟩ (by omega) (lC_P hb) kv_X0 rfl rfl (Nat.le_of_ble_eq_true rfl) dX0_passNight_63 ⟨Nat.le_of_ble_eq_true rfl, Nat.le_of_ble_eq_true rfl⟩ (fun ρ_25 h_27 => ?_)
            refine g_aload_n X dX0_passNight_66 0 rfl rfl ?_
            refine g_getr X b (by omega) 3 (by decide) ku_X0 kv_X0 kf_X0_22 rfl (lC_f_pla hb) dX0_passNight_67 ?_
            refine g_iload_n X dX0_passNight_70 3 rfl rfl ?_
            refine g_iconst X (v := 0) dX0_passNight_71 (by decide) ?_
            refine g_zastN X (b + 4) i (by omega) (lC_pla hb) vp_z0 (by omega) (by decide) dX0_passNight_72 (fun ρ_28 eρ_28 => ?_)
            refine g_iincN X i 3 [(3, .int _), (0, .ref _), (1, .int _), (2, .int _)] 3 dX0_passNight_73 rfl (by decide) rfl ?_
            refine g_goto X 4 dX0_passNight_76 (by decide) ?_
            refine g_ls (ls' := [(0, .ref _), (1, .int _), (2, .int _), (3, .int _)]) [1, 2, 3, 0] rfl ?_
            exact g_eqv (ihi (by omega) trivial) (by simp only [sumI, cmB, *, ↓reduceIte, Int32.add_zero]) (by subst_vars; funext k j; simp only [up2_e, ntR, cmB, par] at *; grind) rfl rfl
          · skip
            refine g_iload_n X dX0_passNight_57 1 rfl rfl ?_
            refine g_goto X 63 dX0_passNight_58 (by decide) ?_
            refine g_mcallVv X b (c_X0_shift l D cy ad ρ_1 b i _ hb (by omega)) kl_X0_38 ⟨rfl, rfl, Nat.le_of_ble_eq_true rfl, Nat.le_of_ble_eq_true rfl⟩ (by omega) (lC_P hb) kv_X0 rfl rfl (Nat.le_of_ble_eq_true rfl) dX0_passNight_63 ⟨Nat.le_of_ble_eq_true rfl, Nat.le_of_ble_eq_true rfl⟩ (fun ρ_29 h_31 => ?_)
            refine g_aload_n X dX0_passNight_66 0 rfl rfl ?_
            refine g_getr X b (by omega) 3 (by decide) ku_X0 kv_X0 kf_X0_22 rfl (lC_f_pla hb) dX0_passNight_67 ?_
            refine g_iload_n X dX0_passNight_70 3 rfl rfl ?_
            refine g_iconst X (v := 0) dX0_passNight_71 (by decide) ?_
            refine g_zastN X (b + 4) i (by omega) (lC_pla hb) vp_z0 (by omega) (by decide) dX0_passNight_72 (fun ρ_32 eρ_32 => ?_)
            refine g_iincN X i 3 [(3, .int _), (0, .ref _), (1, .int _), (2, .int _)] 3 dX0_passNight_73 rfl (by decide) rfl ?_
            refine g_goto X 4 dX0_passNight_76 (by decide) ?_
            refine g_ls (ls' := [(0, .ref _), (1, .int _), (2, .int _), (3, .int _)]) [1, 2, 3, 0] rfl ?_
            exact g_eqv (ihi (by omega) trivial) (by simp only [sumI, cmB, *, ↓reduceIte, Int32.add_zero]) (by subst_vars; funext k j; simp only [up2_e, ntR, cmB, par] at *; grind) rfl rfl
        · skip
          refine g_aload_n X dX0_passNight_39 0 rfl rfl ?_
          refine g_getr X b (by omega) 2 (by decide) ku_X0 kv_X0 kf_X0_18 rfl (lC_f_cri hb) dX0_passNight_40 ?_
          refine g_iload_n X dX0_passNight_43 3 rfl rfl ?_
          refine g_iconst X (v := 1) dX0_passNight_44 (by decide) ?_
          refine g_zastN X (b + 3) i (by omega) (lC_cri hb) vp_z1 (by omega) (by decide) dX0_passNight_45 (fun ρ_33 eρ_33 => ?_)
          refine g_iinc X (_ + 1) [(2, .int _), (0, .ref _), (1, .int _), (3, .int _)] 2 dX0_passNight_46 rfl rfl (by decide) rfl ?_
          refine g_aload_n X dX0_passNight_49 1 rfl rfl ?_
          refine g_iload_n X dX0_passNight_50 3 rfl rfl ?_
          refine g_iload_n X dX0_passNight_51 3 rfl rfl ?_
          refine g_iconst X (v := 2) dX0_passNight_52 (by decide) ?_
          refine g_irem X dX0_passNight_53 (by decide) ?_
          rw [remN (by omega)]
          refine g_if_ne X 61 dX0_passNight_54 (by decide) (fun c_34 => ?_) (fun c_34 => ?_)
          · skip
            refine g_iload_n X dX0_passNight_61 2 rfl rfl ?_
            refine g_ineg X dX0_passNight_62 ?_
            refine g_mcallVv X b (c_X0_shift l D cy ad ρ_33 b i _ hb (by omega)) kl_X0_38 ⟨rfl, rfl, Nat.le_of_ble_eq_true rfl, Nat.le_of_ble_eq_true rfl⟩ (by omega) (lC_P hb) kv_X0 rfl rfl (Nat.le_of_ble_eq_true rfl) dX0_passNight_63 ⟨Nat.le_of_ble_eq_true rfl, Nat.le_of_ble_eq_true rfl⟩ (fun ρ_35 h_37 => ?_)
            refine g_aload_n X dX0_passNight_66 1 rfl rfl ?_
            refine g_getr X b (by omega) 3 (by decide) ku_X0 kv_X0 kf_X0_22 rfl (lC_f_pla hb) dX0_passNight_67 ?_
            refine g_iload_n X dX0_passNight_70 3 rfl rfl ?_
            refine g_iconst X (v := 0) dX0_passNight_71 (by decide) ?_
            refine g_zastN X (b + 4) i (by omega) (lC_pla hb) vp_z0 (by omega) (by decide) dX0_passNight_72 (fun ρ_38 eρ_38 => ?_)
            refine g_iincN X i 3 [(3, .int _), (2, .int _), (0, .ref _), (1, .int _)] 3 dX0_passNight_73 rfl (by decide) rfl ?_
            refine g_goto X 4 dX0_passNight_76 (by decide) ?_
            refine g_ls (ls' := [(0, .ref _), (1, .int _), (2, .int _), (3, .int _)]) [2, 3, 1, 0] rfl ?_
            exact g_eqv (ihi (by omega) trivial) (by simp only [sumI, cmB, *, ↓reduceIte, Int32.add_zero]) (by subst_vars; funext k j; simp only [up2_e, ntR, cmB, par] at *; grind) rfl rfl
          · skip
            refine g_iload_n X dX0_passNight_57 2 rfl rfl ?_
            refine g_goto X 63 dX0_passNight_58 (by decide) ?_
            refine g_mcallVv X b (c_X0_shift l D cy ad ρ_33 b i _ hb (by omega)) kl_X0_38 ⟨rfl, rfl, Nat.le_of_ble_eq_true rfl, Nat.le_of_ble_eq_true rfl⟩ (by omega) (lC_P hb) kv_X0 rfl rfl (Nat.le_of_ble_eq_true rfl) dX0_passNight_63 ⟨Nat.le_of_ble_eq_true rfl, Nat.le_of_ble_eq_true rfl⟩ (fun ρ_39 h_41 => ?_)
            refine g_aload_n X dX0_passNight_66 1 rfl rfl ?_
            refine g_getr X b (by omega) 3 (by decide) ku_X0 kv_X0 kf_X0_22 rfl (lC_f_pla hb) dX0_passNight_67 ?_
            refine g_iload_n X dX0_passNight_70 3 rfl rfl ?_
            refine g_iconst X (v := 0) dX0_passNight_71 (by decide) ?_
            refine g_zastN X (b + 4) i (by omega) (lC_pla hb) vp_z0 (by omega) (by decide) dX0_passNight_72 (fun ρ_42 eρ_42 => ?_)
            refine g_iincN X i 3 [(3, .int _), (2, .int _), (0, .ref _), (1, .int _)] 3 dX0_passNight_73 rfl (by decide) rfl ?_
            refine g_goto X 4 dX0_passNight_76 (by decide) ?_
            refine g_ls (ls' := [(0, .ref _), (1, .int _), (2, .int _), (3, .int _)]) [2, 3, 1, 0] rfl ?_
            exact g_eqv (ihi (by omega) trivial) (by simp only [sumI, cmB, *, ↓reduceIte, Int32.add_zero]) (by subst_vars; funext k j; simp only [up2_e, ntR, cmB, par] at *; grind) rfl rfl

set_option maxHeartbeats 1000000 in
set_option maxRecDepth 100000 in
theorem c_X0_clearCrickets (l : Launch) (D : va_G) (cy : Nat → ClassId) (ad : Nat → Nat) (ρ : Nat → Nat → Int32) (b : Nat) (hb : isP b) : gMV l yX0_clearCrickets cX0_clearCrickets 2 none { frames := 0, cells := 0, slots := 0, locals := 0 } D cy 48 ad (cC ad cy) [.ref (ad b)] ρ (fun ρ1 => ρ1 = clrR ρ b 12) 0 0 := by
  refine gMV_of (ls := [(0, .ref (ad b))]) RX0 rfl (by decide +kernel) (Nat.le_of_ble_eq_true rfl) rfl ?_
  intro p e s m args below meth c A X hr hlk hnm
  have hb9 := isP_lt hb
  refine g_iconst X (v := 0) dX0_clearCrickets_0 (by decide) ?_
  refine g_istore_n X [(1, .int _), (0, .ref _)] dX0_clearCrickets_1 rfl (by decide) rfl ?_
  refine g_ls (ls' := [(0, .ref _), (1, .int _)]) [1, 0] rfl ?_
  refine g_loop (fun _ => True) (fun i => clrR ρ b i) (fun i => [(0, .ref (ad b)), (1, .int (nI i))]) (fun _ => 0) (fun _ => 0) 12 0 trivial (by omega) rfl (by funext k j; simp [clrR]) rfl rfl (fun i h0i hi hIi ihi => ?_)
  obtain ⟨ρ_1, eρ_1⟩ : ∃ ρz, ρz = clrR ρ b i := ⟨_, rfl⟩
  rw [← eρ_1]
  refine g_iload_n X dX0_clearCrickets_2 1 rfl rfl ?_
  refine g_bipush X (v := 12) dX0_clearCrickets_3 (by decide) ?_
  refine g_icmp_geN X i 12 21 (by omega) (by omega) dX0_clearCrickets_5 (by decide) (fun c_2 => ?_) (fun c_2 => ?_)
  · skip
    exact g_vret X hr hlk (by omega) (by omega) dX0_clearCrickets_21 (by subst_vars; rw [show i = 12 by omega])
  · skip
    refine g_aload_n X dX0_clearCrickets_8 0 rfl rfl ?_
    refine g_getr X b (by omega) 2 (by decide) ku_X0 kv_X0 kf_X0_18 rfl (lC_f_cri hb) dX0_clearCrickets_9 ?_
    refine g_iload_n X dX0_clearCrickets_12 1 rfl rfl ?_
    refine g_iconst X (v := 0) dX0_clearCrickets_13 (by decide) ?_
    refine g_zastN X (b + 3) i (by omega) (lC_cri hb) vp_z0 (by omega) (by decide) dX0_clearCrickets_14 (fun ρ_3 eρ_3 => ?_)
    refine g_iincN X i 1 [(1, .int _), (0, .ref _)] 1 dX0_clearCrickets_15 rfl (by decide) rfl ?_
    refine g_goto X 2 dX0_clearCrickets_18 (by decide) ?_
    refine g_ls (ls' := [(0, .ref _), (1, .int _)]) [1, 0] rfl ?_
    exact g_eqv (ihi (by omega) trivial) (rfl) (by subst_vars; funext k j; simp only [up2_e, clrR]; grind) rfl rfl

set_option maxHeartbeats 1000000 in
set_option maxRecDepth 100000 in
theorem c_X0_cricketCount (l : Launch) (D : va_G) (cy : Nat → ClassId) (ad : Nat → Nat) (ρ : Nat → Nat → Int32) (b : Nat) (hb : isP b) : gMI l yX0_cricketCount cX0_cricketCount 3 (some .int) { frames := 0, cells := 0, slots := 0, locals := 0 } D cy 48 ad (cC ad cy) [.ref (ad b)] ρ (fun r ρ1 => r = crc ρ b ∧ ρ1 = ρ) 0 0 := by
  refine gMI_of (ls := [(0, .ref (ad b))]) RX0 rfl (by decide +kernel) (Nat.le_of_ble_eq_true rfl) rfl ?_
  intro p e s m args below meth c A X hr hlk hnm
  have hb9 := isP_lt hb
  refine g_iconst X (v := 0) dX0_cricketCount_0 (by decide) ?_
  refine g_istore_n X [(1, .int _), (0, .ref _)] dX0_cricketCount_1 rfl (by decide) rfl ?_
  refine g_iconst X (v := 0) dX0_cricketCount_2 (by decide) ?_
  refine g_istore_n X [(2, .int _), (1, .int _), (0, .ref _)] dX0_cricketCount_3 rfl (by decide) rfl ?_
  refine g_ls (ls' := [(0, .ref _), (1, .int _), (2, .int _)]) [2, 1, 0] rfl ?_
  refine g_loop (fun _ => True) (fun _ => ρ) (fun i => [(0, .ref (ad b)), (1, .int (sumI (fun j => b01 (ρ (b + 3) j)) i)), (2, .int (nI i))]) (fun _ => 0) (fun _ => 0) 12 0 trivial (by omega) rfl rfl rfl rfl (fun i h0i hi hIi ihi => ?_)
  refine g_iload_n X dX0_cricketCount_4 2 rfl rfl ?_
  refine g_bipush X (v := 12) dX0_cricketCount_5 (by decide) ?_
  refine g_icmp_geN X i 12 33 (by omega) (by omega) dX0_cricketCount_7 (by decide) (fun c_1 => ?_) (fun c_1 => ?_)
  · skip
    refine g_iload_n X dX0_cricketCount_33 1 rfl rfl ?_
    exact g_iret X hr hlk (by omega) (by omega) dX0_cricketCount_34 (by rw [show i = 12 by omega]; exact ⟨rfl, rfl⟩)
  · skip
    refine g_iload_n X dX0_cricketCount_10 1 rfl rfl ?_
    refine g_aload_n X dX0_cricketCount_11 0 rfl rfl ?_
    refine g_getr X b (by omega) 2 (by decide) ku_X0 kv_X0 kf_X0_18 rfl (lC_f_cri hb) dX0_cricketCount_12 ?_
    refine g_iload_n X dX0_cricketCount_15 2 rfl rfl ?_
    refine g_zaldN X (b + 3) i (by omega) (lC_cri hb) (by omega) (by decide) dX0_cricketCount_16 ?_
    refine g_if_eq X 24 dX0_cricketCount_17 (by decide) (fun c_2 => ?_) (fun c_2 => ?_)
    · skip
      refine g_iconst X (v := 0) dX0_cricketCount_24 (by decide) ?_
      refine g_iadd X dX0_cricketCount_25 ?_
      refine g_istore_n X [(1, .int _), (0, .ref _), (2, .int _)] dX0_cricketCount_26 rfl (by decide) rfl ?_
      refine g_iincN X i 2 [(2, .int _), (1, .int _), (0, .ref _)] 2 dX0_cricketCount_27 rfl (by decide) rfl ?_
      refine g_goto X 4 dX0_cricketCount_30 (by decide) ?_
      refine g_ls (ls' := [(0, .ref _), (1, .int _), (2, .int _)]) [2, 1, 0] rfl ?_
      exact g_eqv (ihi (by omega) trivial) (by simp only [sumI, b01]; first | rw [if_pos c_2] | rw [if_neg c_2]) (rfl) rfl rfl
    · skip
      refine g_iconst X (v := 1) dX0_cricketCount_20 (by decide) ?_
      refine g_goto X 25 dX0_cricketCount_21 (by decide) ?_
      refine g_iadd X dX0_cricketCount_25 ?_
      refine g_istore_n X [(1, .int _), (0, .ref _), (2, .int _)] dX0_cricketCount_26 rfl (by decide) rfl ?_
      refine g_iincN X i 2 [(2, .int _), (1, .int _), (0, .ref _)] 2 dX0_cricketCount_27 rfl (by decide) rfl ?_
      refine g_goto X 4 dX0_cricketCount_30 (by decide) ?_
      refine g_ls (ls' := [(0, .ref _), (1, .int _), (2, .int _)]) [2, 1, 0] rfl ?_
      exact g_eqv (ihi (by omega) trivial) (by simp only [sumI, b01]; first | rw [if_pos c_2] | rw [if_neg c_2]) (rfl) rfl rfl

set_option maxHeartbeats 1000000 in
set_option maxRecDepth 100000 in
theorem c_X0_wornInAll (l : Launch) (D : va_G) (cy : Nat → ClassId) (ad : Nat → Nat) (ρ : Nat → Nat → Int32) (b : Nat) (hb : isP b) : gMI l yX0_wornInAll cX0_wornInAll 3 (some .int) { frames := 0, cells := 0, slots := 0, locals := 0 } D cy 48 ad (cC ad cy) [.ref (ad b)] ρ (fun r ρ1 => r = wrn ρ b ∧ ρ1 = ρ) 0 0 := by
  refine gMI_of (ls := [(0, .ref (ad b))]) RX0 rfl (by decide +kernel) (Nat.le_of_ble_eq_true rfl) rfl ?_
  intro p e s m args below meth c A X hr hlk hnm
  have hb9 := isP_lt hb
  refine g_iconst X (v := 0) dX0_wornInAll_0 (by decide) ?_
  refine g_istore_n X [(1, .int _), (0, .ref _)] dX0_wornInAll_1 rfl (by decide) rfl ?_
  refine g_iconst X (v := 0) dX0_wornInAll_2 (by decide) ?_
  refine g_istore_n X [(2, .int _), (1, .int _), (0, .ref _)] dX0_wornInAll_3 rfl (by decide) rfl ?_
  refine g_ls (ls' := [(0, .ref _), (1, .int _), (2, .int _)]) [2, 1, 0] rfl ?_
  refine g_loop (fun _ => True) (fun _ => ρ) (fun i => [(0, .ref (ad b)), (1, .int (sumI (fun j => ρ (b + 1) j) i)), (2, .int (nI i))]) (fun _ => 0) (fun _ => 0) 12 0 trivial (by omega) rfl rfl rfl rfl (fun i h0i hi hIi ihi => ?_)
  refine g_iload_n X dX0_wornInAll_4 2 rfl rfl ?_
  refine g_bipush X (v := 12) dX0_wornInAll_5 (by decide) ?_
  refine g_icmp_geN X i 12 25 (by omega) (by omega) dX0_wornInAll_7 (by decide) (fun c_1 => ?_) (fun c_1 => ?_)
  · skip
    refine g_iload_n X dX0_wornInAll_25 1 rfl rfl ?_
    exact g_iret X hr hlk (by omega) (by omega) dX0_wornInAll_26 (by rw [show i = 12 by omega]; exact ⟨rfl, rfl⟩)
  · skip
    refine g_iload_n X dX0_wornInAll_10 1 rfl rfl ?_
    refine g_aload_n X dX0_wornInAll_11 0 rfl rfl ?_
    refine g_getr X b (by omega) 0 (by decide) ku_X0 kv_X0 kf_X0_9 rfl (lC_f_worn hb) dX0_wornInAll_12 ?_
    refine g_iload_n X dX0_wornInAll_15 2 rfl rfl ?_
    refine g_ialdN X (b + 1) i (by omega) (lC_worn hb) (by omega) (by decide) dX0_wornInAll_16 ?_
    refine g_iadd X dX0_wornInAll_17 ?_
    refine g_istore_n X [(1, .int _), (0, .ref _), (2, .int _)] dX0_wornInAll_18 rfl (by decide) rfl ?_
    refine g_iincN X i 2 [(2, .int _), (1, .int _), (0, .ref _)] 2 dX0_wornInAll_19 rfl (by decide) rfl ?_
    refine g_goto X 4 dX0_wornInAll_22 (by decide) ?_
    refine g_ls (ls' := [(0, .ref _), (1, .int _), (2, .int _)]) [2, 1, 0] rfl ?_
    exact g_eqv (ihi (by omega) trivial) (rfl) (rfl) rfl rfl

set_option maxHeartbeats 1000000 in
set_option maxRecDepth 100000 in
theorem c_X0_offInAll (l : Launch) (D : va_G) (cy : Nat → ClassId) (ad : Nat → Nat) (ρ : Nat → Nat → Int32) (b : Nat) (hb : isP b) : gMI l yX0_offInAll cX0_offInAll 3 (some .int) { frames := 1, cells := 0, slots := 0, locals := 21 } D cy 48 ad (cC ad cy) [.ref (ad b)] ρ (fun r ρ1 => r = ofn ρ b ∧ ρ1 = ρ) 0 0 := by
  refine gMI_of (ls := [(0, .ref (ad b))]) RX0 rfl (by decide +kernel) (Nat.le_of_ble_eq_true rfl) rfl ?_
  intro p e s m args below meth c A X hr hlk hnm
  have hb9 := isP_lt hb
  refine g_iconst X (v := 0) dX0_offInAll_0 (by decide) ?_
  refine g_istore_n X [(1, .int _), (0, .ref _)] dX0_offInAll_1 rfl (by decide) rfl ?_
  refine g_iconst X (v := 0) dX0_offInAll_2 (by decide) ?_
  refine g_istore_n X [(2, .int _), (1, .int _), (0, .ref _)] dX0_offInAll_3 rfl (by decide) rfl ?_
  refine g_ls (ls' := [(0, .ref _), (1, .int _), (2, .int _)]) [2, 1, 0] rfl ?_
  refine g_loop (fun _ => True) (fun _ => ρ) (fun i => [(0, .ref (ad b)), (1, .int (sumI (fun j => ab (ρ (b + 2) j)) i)), (2, .int (nI i))]) (fun _ => 0) (fun _ => 0) 12 0 trivial (by omega) rfl rfl rfl rfl (fun i h0i hi hIi ihi => ?_)
  refine g_iload_n X dX0_offInAll_4 2 rfl rfl ?_
  refine g_bipush X (v := 12) dX0_offInAll_5 (by decide) ?_
  refine g_icmp_geN X i 12 28 (by omega) (by omega) dX0_offInAll_7 (by decide) (fun c_1 => ?_) (fun c_1 => ?_)
  · skip
    refine g_iload_n X dX0_offInAll_28 1 rfl rfl ?_
    exact g_iret X hr hlk (by omega) (by omega) dX0_offInAll_29 (by rw [show i = 12 by omega]; exact ⟨rfl, rfl⟩)
  · skip
    refine g_iload_n X dX0_offInAll_10 1 rfl rfl ?_
    refine g_aload_n X dX0_offInAll_11 0 rfl rfl ?_
    refine g_getr X b (by omega) 1 (by decide) ku_X0 kv_X0 kf_X0_15 rfl (lC_f_off hb) dX0_offInAll_12 ?_
    refine g_iload_n X dX0_offInAll_15 2 rfl rfl ?_
    refine g_ialdN X (b + 2) i (by omega) (lC_off hb) (by omega) (by decide) dX0_offInAll_16 ?_
    refine g_mabs X km_X0_25 kt_mabs ki_math kc_mabs ⟨Nat.le_of_ble_eq_true rfl, Nat.le_of_ble_eq_true rfl, by omega, by omega⟩ dX0_offInAll_17 ?_
    refine g_iadd X dX0_offInAll_20 ?_
    refine g_istore_n X [(1, .int _), (0, .ref _), (2, .int _)] dX0_offInAll_21 rfl (by decide) rfl ?_
    refine g_iincN X i 2 [(2, .int _), (1, .int _), (0, .ref _)] 2 dX0_offInAll_22 rfl (by decide) rfl ?_
    refine g_goto X 4 dX0_offInAll_25 (by decide) ?_
    refine g_ls (ls' := [(0, .ref _), (1, .int _), (2, .int _)]) [2, 1, 0] rfl ?_
    exact g_eqv (ihi (by omega) trivial) (rfl) (rfl) rfl rfl

set_option maxHeartbeats 1000000 in
set_option maxRecDepth 100000 in
theorem c_X0_sumUp (l : Launch) (D : va_G) (cy : Nat → ClassId) (ad : Nat → Nat) (ρ : Nat → Nat → Int32) (b w : Nat) (hb : isP b) (hw : w = 5 ∨ w = 6 ∨ w = 7) : gMI l yX0_sumUp cX0_sumUp 2 (some .int) { frames := 2, cells := 0, slots := 0, locals := 43 } D cy 48 ad (cC ad cy) [.ref (ad b), .int (nI w)] ρ (fun r ρ1 => r = sumUpF ρ b w ∧ ρ1 = ρ) 0 0 := by
  refine gMI_of (ls := [(0, .ref (ad b)), (1, .int (nI w))]) RX0 rfl (by decide +kernel) (Nat.le_of_ble_eq_true rfl) rfl ?_
  intro p e s m args below meth c A X hr hlk hnm
  have hb9 := isP_lt hb
  refine g_iload_n X dX0_sumUp_0 1 rfl rfl ?_
  rcases hw with rfl | rfl | rfl
  · skip
    refine g_lookup X 27 28 dX0_sumUp_1 (by decide) (by decide) (by decide) ?_
    refine g_aload_n X dX0_sumUp_28 0 rfl rfl ?_
    refine g_mcallVi X b (c_X0_cricketCount l D cy ad ρ b hb) kl_X0_42 ⟨rfl, rfl, Nat.le_of_ble_eq_true rfl, Nat.le_of_ble_eq_true rfl⟩ (by omega) (lC_P hb) kv_X0 rfl rfl (Nat.le_of_ble_eq_true rfl) dX0_sumUp_29 ⟨Nat.le_of_ble_eq_true rfl, Nat.le_of_ble_eq_true rfl⟩ (fun r_2 ρ_1 h_3 => ?_)
    obtain ⟨er_2, e9⟩ := h_3
    rw [e9, er_2]
    clear e9
    exact g_iret X hr hlk (by omega) (by omega) dX0_sumUp_32 (⟨rfl, rfl⟩)
  · skip
    refine g_lookup X 32 33 dX0_sumUp_1 (by decide) (by decide) (by decide) ?_
    refine g_aload_n X dX0_sumUp_33 0 rfl rfl ?_
    refine g_mcallVi X b (c_X0_wornInAll l D cy ad ρ b hb) kl_X0_46 ⟨rfl, rfl, Nat.le_of_ble_eq_true rfl, Nat.le_of_ble_eq_true rfl⟩ (by omega) (lC_P hb) kv_X0 rfl rfl (Nat.le_of_ble_eq_true rfl) dX0_sumUp_34 ⟨Nat.le_of_ble_eq_true rfl, Nat.le_of_ble_eq_true rfl⟩ (fun r_5 ρ_4 h_6 => ?_)
    obtain ⟨er_5, e9⟩ := h_6
    rw [e9, er_5]
    clear e9
    exact g_iret X hr hlk (by omega) (by omega) dX0_sumUp_37 (⟨rfl, rfl⟩)
  · skip
    refine g_lookup X 37 38 dX0_sumUp_1 (by decide) (by decide) (by decide) ?_
    refine g_aload_n X dX0_sumUp_38 0 rfl rfl ?_
    refine g_mcallVi X b (c_X0_offInAll l D cy ad ρ b hb) kl_X0_49 ⟨rfl, rfl, Nat.le_of_ble_eq_true rfl, Nat.le_of_ble_eq_true rfl⟩ (by omega) (lC_P hb) kv_X0 rfl rfl (Nat.le_of_ble_eq_true rfl) dX0_sumUp_39 ⟨Nat.le_of_ble_eq_true rfl, Nat.le_of_ble_eq_true rfl⟩ (fun r_8 ρ_7 h_9 => ?_)
    obtain ⟨er_8, e9⟩ := h_9
    rw [e9, er_8]
    clear e9
    exact g_iret X hr hlk (by omega) (by omega) dX0_sumUp_42 (⟨rfl, rfl⟩)

set_option maxHeartbeats 1000000 in
set_option maxRecDepth 100000 in
theorem c_X0_tell (l : Launch) (D : va_G) (cy : Nat → ClassId) (ad : Nat → Nat) (ρ : Nat → Nat → Int32) (b i w : Nat) (hb : isP b) (hi : i < 12) (hw : w < 5) : gMI l yX0_tell cX0_tell 3 (some .int) { frames := 2, cells := 0, slots := 0, locals := 42 } D cy 48 ad (cC ad cy) [.ref (ad b), .int (nI i), .int (nI w)] ρ (fun r ρ1 => r = tellF ρ b i w ∧ ρ1 = ρ) 0 0 := by
  refine gMI_of (ls := [(0, .ref (ad b)), (1, .int (nI i)), (2, .int (nI w))]) RX0 rfl (by decide +kernel) (Nat.le_of_ble_eq_true rfl) rfl ?_
  intro p e s m args below meth c A X hr hlk hnm
  have hb9 := isP_lt hb
  refine g_iload_n X dX0_tell_0 2 rfl rfl ?_
  rcases (show w = 0 ∨ w = 1 ∨ w = 2 ∨ w = 3 ∨ w = 4 by omega) with rfl | rfl | rfl | rfl | rfl
  · skip
    refine g_tableIn X 32 dX0_tell_1 (by decide) (by decide) rfl (by decide) ?_
    refine g_aload_n X dX0_tell_32 0 rfl rfl ?_
    refine g_getr X b (by omega) 0 (by decide) ku_X0 kv_X0 kf_X0_9 rfl (lC_f_worn hb) dX0_tell_33 ?_
    refine g_iload_n X dX0_tell_36 1 rfl rfl ?_
    refine g_ialdN X (b + 1) i (by omega) (lC_worn hb) (by omega) (by decide) dX0_tell_37 ?_
    exact g_iret X hr hlk (by omega) (by omega) dX0_tell_38 (⟨rfl, rfl⟩)
  · skip
    refine g_tableIn X 39 dX0_tell_1 (by decide) (by decide) rfl (by decide) ?_
    refine g_aload_n X dX0_tell_39 0 rfl rfl ?_
    refine g_getr X b (by omega) 1 (by decide) ku_X0 kv_X0 kf_X0_15 rfl (lC_f_off hb) dX0_tell_40 ?_
    refine g_iload_n X dX0_tell_43 1 rfl rfl ?_
    refine g_ialdN X (b + 2) i (by omega) (lC_off hb) (by omega) (by decide) dX0_tell_44 ?_
    exact g_iret X hr hlk (by omega) (by omega) dX0_tell_45 (⟨rfl, rfl⟩)
  · skip
    refine g_tableIn X 46 dX0_tell_1 (by decide) (by decide) rfl (by decide) ?_
    refine g_aload_n X dX0_tell_46 0 rfl rfl ?_
    refine g_getr X b (by omega) 2 (by decide) ku_X0 kv_X0 kf_X0_18 rfl (lC_f_cri hb) dX0_tell_47 ?_
    refine g_iload_n X dX0_tell_50 1 rfl rfl ?_
    refine g_zaldN X (b + 3) i (by omega) (lC_cri hb) (by omega) (by decide) dX0_tell_51 ?_
    refine g_if_eq X 59 dX0_tell_52 (by decide) (fun c_1 => ?_) (fun c_1 => ?_)
    · skip
      refine g_iconst X (v := 0) dX0_tell_59 (by decide) ?_
      exact g_iret X hr hlk (by omega) (by omega) dX0_tell_60 (⟨by simp [tellF, b01, *], rfl⟩)
    · skip
      refine g_iconst X (v := 1) dX0_tell_55 (by decide) ?_
      refine g_goto X 60 dX0_tell_56 (by decide) ?_
      exact g_iret X hr hlk (by omega) (by omega) dX0_tell_60 (⟨by simp [tellF, b01, *], rfl⟩)
  · skip
    refine g_tableIn X 61 dX0_tell_1 (by decide) (by decide) rfl (by decide) ?_
    refine g_aload_n X dX0_tell_61 0 rfl rfl ?_
    refine g_iload_n X dX0_tell_62 1 rfl rfl ?_
    refine g_mcallVi X b (c_X0_harmOf l D cy ad ρ b i hb (by omega)) kl_X0_52 ⟨rfl, rfl, Nat.le_of_ble_eq_true rfl, Nat.le_of_ble_eq_true rfl⟩ (by omega) (lC_P hb) kv_X0 rfl rfl (Nat.le_of_ble_eq_true rfl) dX0_tell_63 ⟨Nat.le_of_ble_eq_true rfl, Nat.le_of_ble_eq_true rfl⟩ (fun r_3 ρ_2 h_4 => ?_)
    obtain ⟨er_3, e9⟩ := h_4
    rw [e9, er_3]
    clear e9
    exact g_iret X hr hlk (by omega) (by omega) dX0_tell_66 (⟨rfl, rfl⟩)
  · skip
    refine g_tableOut X 67 dX0_tell_1 (by decide) (by decide) ?_
    refine g_aload_n X dX0_tell_67 0 rfl rfl ?_
    refine g_getr X b (by omega) 3 (by decide) ku_X0 kv_X0 kf_X0_22 rfl (lC_f_pla hb) dX0_tell_68 ?_
    refine g_iload_n X dX0_tell_71 1 rfl rfl ?_
    refine g_zaldN X (b + 4) i (by omega) (lC_pla hb) (by omega) (by decide) dX0_tell_72 ?_
    refine g_if_eq X 80 dX0_tell_73 (by decide) (fun c_5 => ?_) (fun c_5 => ?_)
    · skip
      refine g_iconst X (v := 0) dX0_tell_80 (by decide) ?_
      exact g_iret X hr hlk (by omega) (by omega) dX0_tell_81 (⟨by simp [tellF, b01, *], rfl⟩)
    · skip
      refine g_iconst X (v := 1) dX0_tell_76 (by decide) ?_
      refine g_goto X 81 dX0_tell_77 (by decide) ?_
      exact g_iret X hr hlk (by omega) (by omega) dX0_tell_81 (⟨by simp [tellF, b01, *], rfl⟩)
end
section
set_option maxHeartbeats 1000000 in
set_option maxRecDepth 100000 in
theorem c_X1_isPermittedOn (l : Launch) (D : va_G) (cy : Nat → ClassId) (ad : Nat → Nat) (ρ : Nat → Nat → Int32) (z : Nat) (w : Int32) (hs : z < 8) : gMI l yX1_isPermittedOn cX1_isPermittedOn 2 (some .boolean) { frames := 0, cells := 0, slots := 0, locals := 0 } D cy 48 ad (cC ad cy) [.ref (ad (32 + 2 * z)), .int w] ρ (fun r ρ1 => r = pmF (ρ (32 + 2 * z) 2) w ∧ ρ1 = ρ) 0 0 := by
  refine gMI_of (ls := [(0, .ref (ad (32 + 2 * z))), (1, .int w)]) RX1 rfl (by decide +kernel) (Nat.le_of_ble_eq_true rfl) rfl ?_
  intro p e s m args below meth c A X hr hlk hnm
  refine g_aload_n X dX1_isPermittedOn_0 0 rfl rfl ?_
  refine g_geti X (32 + 2 * z) (by omega) 2 (by decide) ku_X1 kv_X1 kf_X1_15 rfl (lC_f_permits hs) dX1_isPermittedOn_1 ?_
  refine g_iload_n X dX1_isPermittedOn_4 1 rfl rfl ?_
  refine g_ishr X dX1_isPermittedOn_5 ?_
  refine g_iconst X (v := 1) dX1_isPermittedOn_6 (by decide) ?_
  refine g_iand X dX1_isPermittedOn_7 ?_
  refine g_iconst X (v := 1) dX1_isPermittedOn_8 (by decide) ?_
  refine g_icmp_ne X 16 dX1_isPermittedOn_9 (by decide) (fun c_1 => ?_) (fun c_1 => ?_)
  · skip
    refine g_iconst X (v := 0) dX1_isPermittedOn_16 (by decide) ?_
    exact g_zret X hr hlk (by decide) (by omega) (by omega) dX1_isPermittedOn_17 (⟨by simp only [pmF]; rw [if_neg c_1], rfl⟩)
  · skip
    refine g_iconst X (v := 1) dX1_isPermittedOn_12 (by decide) ?_
    refine g_goto X 17 dX1_isPermittedOn_13 (by decide) ?_
    exact g_zret X hr hlk (by decide) (by omega) (by omega) dX1_isPermittedOn_17 (⟨by simp only [pmF]; rw [if_pos c_1], rfl⟩)

set_option maxHeartbeats 1000000 in
set_option maxRecDepth 100000 in
theorem c_X1_payFor (l : Launch) (D : va_G) (cy : Nat → ClassId) (ad : Nat → Nat) (ρ : Nat → Nat → Int32) (z t : Nat) (snd : Int32) (hs : z < 8) (ht : t < 6) (hpo : payOK ρ z t snd) : gMI l yX1_payFor cX1_payFor 5 (some .int) { frames := 0, cells := 0, slots := 0, locals := 0 } D cy 48 ad (cC ad cy) [.ref (ad (32 + 2 * z)), .int (nI t), .int snd] ρ (fun r ρ1 => r = payV ρ z t snd ∧ ρ1 = ρ) 0 0 := by
  refine gMI_of (ls := [(0, .ref (ad (32 + 2 * z))), (1, .int (nI t)), (2, .int snd)]) RX1 rfl (by decide +kernel) (Nat.le_of_ble_eq_true rfl) rfl ?_
  intro p e s m args below meth c A X hr hlk hnm
  obtain ⟨P, h, hP1, hP20, hh, hh31⟩ := hpo
  refine g_aload_n X dX1_payFor_0 0 rfl rfl ?_
  refine g_geti X (32 + 2 * z) (by omega) 1 (by decide) ku_X1 kv_X1 kf_X1_19 rfl (lC_f_listeners hs) dX1_payFor_1 ?_
  refine g_iload_n X dX1_payFor_4 2 rfl rfl ?_
  refine g_imul X dX1_payFor_5 ?_
  refine g_bipush X (v := 60) dX1_payFor_6 (by decide) ?_
  refine g_idiv X dX1_payFor_8 (by decide) ?_
  rw [hP1]
  refine g_istore_n X [(3, .int _), (0, .ref _), (1, .int _), (2, .int _)] dX1_payFor_9 rfl (by decide) rfl ?_
  refine g_iconst X (v := 0) dX1_payFor_10 (by decide) ?_
  refine g_istore X [(4, .int _), (3, .int _), (0, .ref _), (1, .int _), (2, .int _)] dX1_payFor_11 (by decide) rfl ?_
  refine g_ls (ls' := [(0, .ref _), (1, .int _), (2, .int _), (3, .int _), (4, .int _)]) [2, 3, 4, 1, 0] rfl ?_
  refine g_loop (fun _ => True) (fun _ => ρ) (fun i => [(0, .ref (ad (32 + 2 * z))), (1, .int (nI t)), (2, .int snd), (3, .int (nI (P / 2 ^ i))), (4, .int (nI i))]) (fun _ => 0) (fun _ => 0) h 0 trivial (by omega) (by simp [nI_zero]) rfl rfl rfl (fun i h0i hi hIi ihi => ?_)
  refine g_iload X dX1_payFor_13 4 rfl ?_
  refine g_aload_n X dX1_payFor_15 0 rfl rfl ?_
  refine g_getr X (32 + 2 * z) (by omega) 0 (by decide) ku_X1 kv_X1 kf_X1_9 rfl (lC_f_heard hs) dX1_payFor_16 ?_
  refine g_iload_n X dX1_payFor_19 1 rfl rfl ?_
  refine g_ialdN X (33 + 2 * z) t (by omega) (lC_heard hs) (by omega) (by decide) dX1_payFor_20 ?_
  rw [hh]
  refine g_icmp_geN X i h 38 (by omega) (by omega) dX1_payFor_21 (by decide) (fun c_1 => ?_) (fun c_1 => ?_)
  · skip
    refine g_iload_n X dX1_payFor_38 3 rfl rfl ?_
    exact g_iret X hr hlk (by omega) (by omega) dX1_payFor_39 (by refine ⟨?_, rfl⟩; simp only [payV]; rw [hP1, hh, nI_clamp (by omega), nI_clamp hh31, show i = h by omega])
  · skip
    refine g_iload_n X dX1_payFor_24 3 rfl rfl ?_
    refine g_if_le X 38 dX1_payFor_25 (by decide) (fun c_2 => ?_) (fun c_2 => ?_)
    · skip
      refine g_iload_n X dX1_payFor_38 3 rfl rfl ?_
      exact g_iret X hr hlk (by omega) (by omega) dX1_payFor_39 (by
          have hz := nI_le0 (Nat.lt_of_le_of_lt (Nat.div_le_self _ _) (by omega)) c_2
          have hz2 : P / 2 ^ h = 0 := by
            have h5 : P < 2 ^ i := by
              rcases Nat.lt_or_ge P (2 ^ i) with q | q
              · exact q
              · have := Nat.div_pos q (Nat.two_pow_pos i); omega
            exact Nat.div_eq_of_lt (Nat.lt_of_lt_of_le h5 (Nat.pow_le_pow_right (by omega) (by omega)))
          refine ⟨?_, rfl⟩; simp only [payV]; rw [hP1, hh, nI_clamp (by omega), nI_clamp hh31, hz, hz2])
    · skip
      refine g_iload_n X dX1_payFor_28 3 rfl rfl ?_
      refine g_iconst X (v := 2) dX1_payFor_29 (by decide) ?_
      refine g_idiv X dX1_payFor_30 (by decide) ?_
      rw [halfN hP20]
      refine g_istore_n X [(3, .int _), (0, .ref _), (1, .int _), (2, .int _), (4, .int _)] dX1_payFor_31 rfl (by decide) rfl ?_
      refine g_iincN X i 4 [(4, .int _), (3, .int _), (0, .ref _), (1, .int _), (2, .int _)] 4 dX1_payFor_32 rfl (by decide) rfl ?_
      refine g_goto X 13 dX1_payFor_35 (by decide) ?_
      refine g_ls (ls' := [(0, .ref _), (1, .int _), (2, .int _), (3, .int _), (4, .int _)]) [2, 3, 4, 1, 0] rfl ?_
      exact g_eqv (ihi (by omega) trivial) (rfl) (rfl) rfl rfl

set_option maxHeartbeats 1000000 in
set_option maxRecDepth 100000 in
theorem c_X1_forgetDay (l : Launch) (D : va_G) (cy : Nat → ClassId) (ad : Nat → Nat) (ρ : Nat → Nat → Int32) (z : Nat) (hs : z < 8) : gMV l yX1_forgetDay cX1_forgetDay 2 none { frames := 0, cells := 0, slots := 0, locals := 0 } D cy 48 ad (cC ad cy) [.ref (ad (32 + 2 * z))] ρ (fun ρ1 => ρ1 = fgR ρ z 6) 0 0 := by
  refine gMV_of (ls := [(0, .ref (ad (32 + 2 * z)))]) RX1 rfl (by decide +kernel) (Nat.le_of_ble_eq_true rfl) rfl ?_
  intro p e s m args below meth c A X hr hlk hnm
  refine g_iconst X (v := 0) dX1_forgetDay_0 (by decide) ?_
  refine g_istore_n X [(1, .int _), (0, .ref _)] dX1_forgetDay_1 rfl (by decide) rfl ?_
  refine g_ls (ls' := [(0, .ref _), (1, .int _)]) [1, 0] rfl ?_
  refine g_loop (fun _ => True) (fun i => fgR ρ z i) (fun i => [(0, .ref (ad (32 + 2 * z))), (1, .int (nI i))]) (fun _ => 0) (fun _ => 0) 6 0 trivial (by omega) rfl (by funext k j; simp [fgR]) rfl rfl (fun i h0i hi hIi ihi => ?_)
  obtain ⟨ρ_1, eρ_1⟩ : ∃ ρz, ρz = fgR ρ z i := ⟨_, rfl⟩
  rw [← eρ_1]
  refine g_iload_n X dX1_forgetDay_2 1 rfl rfl ?_
  refine g_bipush X (v := 6) dX1_forgetDay_3 (by decide) ?_
  refine g_icmp_geN X i 6 21 (by omega) (by omega) dX1_forgetDay_5 (by decide) (fun c_2 => ?_) (fun c_2 => ?_)
  · skip
    exact g_vret X hr hlk (by omega) (by omega) dX1_forgetDay_21 (by subst_vars; rw [show i = 6 by omega])
  · skip
    refine g_aload_n X dX1_forgetDay_8 0 rfl rfl ?_
    refine g_getr X (32 + 2 * z) (by omega) 0 (by decide) ku_X1 kv_X1 kf_X1_9 rfl (lC_f_heard hs) dX1_forgetDay_9 ?_
    refine g_iload_n X dX1_forgetDay_12 1 rfl rfl ?_
    refine g_iconst X (v := 0) dX1_forgetDay_13 (by decide) ?_
    refine g_iastN X (33 + 2 * z) i (by omega) (lC_heard hs) (by omega) (by decide) dX1_forgetDay_14 (fun ρ_3 eρ_3 => ?_)
    refine g_iincN X i 1 [(1, .int _), (0, .ref _)] 1 dX1_forgetDay_15 rfl (by decide) rfl ?_
    refine g_goto X 2 dX1_forgetDay_18 (by decide) ?_
    refine g_ls (ls' := [(0, .ref _), (1, .int _)]) [1, 0] rfl ?_
    exact g_eqv (ihi (by omega) trivial) (rfl) (by subst_vars; funext k j; simp only [up2_e, fgR]; grind) rfl rfl

set_option maxHeartbeats 1000000 in
set_option maxRecDepth 100000 in
theorem c_X1_heardInAll (l : Launch) (D : va_G) (cy : Nat → ClassId) (ad : Nat → Nat) (ρ : Nat → Nat → Int32) (z : Nat) (hs : z < 8) : gMI l yX1_heardInAll cX1_heardInAll 3 (some .int) { frames := 0, cells := 0, slots := 0, locals := 0 } D cy 48 ad (cC ad cy) [.ref (ad (32 + 2 * z))] ρ (fun r ρ1 => r = hrd ρ z ∧ ρ1 = ρ) 0 0 := by
  refine gMI_of (ls := [(0, .ref (ad (32 + 2 * z)))]) RX1 rfl (by decide +kernel) (Nat.le_of_ble_eq_true rfl) rfl ?_
  intro p e s m args below meth c A X hr hlk hnm
  refine g_iconst X (v := 0) dX1_heardInAll_0 (by decide) ?_
  refine g_istore_n X [(1, .int _), (0, .ref _)] dX1_heardInAll_1 rfl (by decide) rfl ?_
  refine g_iconst X (v := 0) dX1_heardInAll_2 (by decide) ?_
  refine g_istore_n X [(2, .int _), (1, .int _), (0, .ref _)] dX1_heardInAll_3 rfl (by decide) rfl ?_
  refine g_ls (ls' := [(0, .ref _), (1, .int _), (2, .int _)]) [2, 1, 0] rfl ?_
  refine g_loop (fun _ => True) (fun _ => ρ) (fun i => [(0, .ref (ad (32 + 2 * z))), (1, .int (sumI (fun j => ρ (33 + 2 * z) j) i)), (2, .int (nI i))]) (fun _ => 0) (fun _ => 0) 6 0 trivial (by omega) rfl rfl rfl rfl (fun i h0i hi hIi ihi => ?_)
  refine g_iload_n X dX1_heardInAll_4 2 rfl rfl ?_
  refine g_bipush X (v := 6) dX1_heardInAll_5 (by decide) ?_
  refine g_icmp_geN X i 6 25 (by omega) (by omega) dX1_heardInAll_7 (by decide) (fun c_1 => ?_) (fun c_1 => ?_)
  · skip
    refine g_iload_n X dX1_heardInAll_25 1 rfl rfl ?_
    exact g_iret X hr hlk (by omega) (by omega) dX1_heardInAll_26 (by rw [show i = 6 by omega]; exact ⟨rfl, rfl⟩)
  · skip
    refine g_iload_n X dX1_heardInAll_10 1 rfl rfl ?_
    refine g_aload_n X dX1_heardInAll_11 0 rfl rfl ?_
    refine g_getr X (32 + 2 * z) (by omega) 0 (by decide) ku_X1 kv_X1 kf_X1_9 rfl (lC_f_heard hs) dX1_heardInAll_12 ?_
    refine g_iload_n X dX1_heardInAll_15 2 rfl rfl ?_
    refine g_ialdN X (33 + 2 * z) i (by omega) (lC_heard hs) (by omega) (by decide) dX1_heardInAll_16 ?_
    refine g_iadd X dX1_heardInAll_17 ?_
    refine g_istore_n X [(1, .int _), (0, .ref _), (2, .int _)] dX1_heardInAll_18 rfl (by decide) rfl ?_
    refine g_iincN X i 2 [(2, .int _), (1, .int _), (0, .ref _)] 2 dX1_heardInAll_19 rfl (by decide) rfl ?_
    refine g_goto X 4 dX1_heardInAll_22 (by decide) ?_
    refine g_ls (ls' := [(0, .ref _), (1, .int _), (2, .int _)]) [2, 1, 0] rfl ?_
    exact g_eqv (ihi (by omega) trivial) (rfl) (rfl) rfl rfl

set_option maxHeartbeats 1000000 in
set_option maxRecDepth 100000 in
theorem c_X1_tell (l : Launch) (D : va_G) (cy : Nat → ClassId) (ad : Nat → Nat) (ρ : Nat → Nat → Int32) (z w : Nat) (wd : Int32) (hs : z < 8) (hw : w < 5) : gMI l yX1_tell cX1_tell 3 (some .int) { frames := 1, cells := 0, slots := 0, locals := 22 } D cy 48 ad (cC ad cy) [.ref (ad (32 + 2 * z)), .int (nI w), .int wd] ρ (fun r ρ1 => r = toldF ρ z w wd ∧ ρ1 = ρ) 0 0 := by
  refine gMI_of (ls := [(0, .ref (ad (32 + 2 * z))), (1, .int (nI w)), (2, .int wd)]) RX1 rfl (by decide +kernel) (Nat.le_of_ble_eq_true rfl) rfl ?_
  intro p e s m args below meth c A X hr hlk hnm
  refine g_iload_n X dX1_tell_0 1 rfl rfl ?_
  rcases (show w = 0 ∨ w = 1 ∨ w = 2 ∨ w = 3 ∨ w = 4 by omega) with rfl | rfl | rfl | rfl | rfl
  · skip
    refine g_tableIn X 32 dX1_tell_1 (by decide) (by decide) rfl (by decide) ?_
    refine g_aload_n X dX1_tell_32 0 rfl rfl ?_
    refine g_geti X (32 + 2 * z) (by omega) 1 (by decide) ku_X1 kv_X1 kf_X1_19 rfl (lC_f_listeners hs) dX1_tell_33 ?_
    exact g_iret X hr hlk (by omega) (by omega) dX1_tell_36 (⟨rfl, rfl⟩)
  · skip
    refine g_tableIn X 37 dX1_tell_1 (by decide) (by decide) rfl (by decide) ?_
    refine g_aload_n X dX1_tell_37 0 rfl rfl ?_
    refine g_geti X (32 + 2 * z) (by omega) 2 (by decide) ku_X1 kv_X1 kf_X1_15 rfl (lC_f_permits hs) dX1_tell_38 ?_
    exact g_iret X hr hlk (by omega) (by omega) dX1_tell_41 (⟨rfl, rfl⟩)
  · skip
    refine g_tableIn X 42 dX1_tell_1 (by decide) (by decide) rfl (by decide) ?_
    refine g_aload_n X dX1_tell_42 0 rfl rfl ?_
    refine g_iload_n X dX1_tell_43 2 rfl rfl ?_
    refine g_mcallVi X (32 + 2 * z) (c_X1_isPermittedOn l D cy ad ρ z _ hs) kl_X1_22 ⟨rfl, rfl, Nat.le_of_ble_eq_true rfl, Nat.le_of_ble_eq_true rfl⟩ (by omega) (lC_S hs) kv_X1 rfl rfl (Nat.le_of_ble_eq_true rfl) dX1_tell_44 ⟨Nat.le_of_ble_eq_true rfl, Nat.le_of_ble_eq_true rfl⟩ (fun r_2 ρ_1 h_3 => ?_)
    obtain ⟨er_2, e9⟩ := h_3
    rw [e9, er_2]
    clear e9
    refine g_if_eq X 54 dX1_tell_47 (by decide) (fun c_4 => ?_) (fun c_4 => ?_)
    · skip
      refine g_iconst X (v := 0) dX1_tell_54 (by decide) ?_
      exact g_iret X hr hlk (by omega) (by omega) dX1_tell_55 (⟨by simp only [toldF, pmF] at *; simp at *; simp [*], rfl⟩)
    · skip
      refine g_iconst X (v := 1) dX1_tell_50 (by decide) ?_
      refine g_goto X 55 dX1_tell_51 (by decide) ?_
      exact g_iret X hr hlk (by omega) (by omega) dX1_tell_55 (⟨by simp only [toldF, pmF] at *; simp at *; simp [*], rfl⟩)
  · skip
    refine g_tableIn X 56 dX1_tell_1 (by decide) (by decide) rfl (by decide) ?_
    refine g_aload_n X dX1_tell_56 0 rfl rfl ?_
    refine g_geti X (32 + 2 * z) (by omega) 3 (by decide) ku_X1 kv_X1 kf_X1_26 rfl (lC_f_paid hs) dX1_tell_57 ?_
    exact g_iret X hr hlk (by omega) (by omega) dX1_tell_60 (⟨rfl, rfl⟩)
  · skip
    refine g_tableOut X 61 dX1_tell_1 (by decide) (by decide) ?_
    refine g_aload_n X dX1_tell_61 0 rfl rfl ?_
    refine g_mcallVi X (32 + 2 * z) (c_X1_heardInAll l D cy ad ρ z hs) kl_X1_29 ⟨rfl, rfl, Nat.le_of_ble_eq_true rfl, Nat.le_of_ble_eq_true rfl⟩ (by omega) (lC_S hs) kv_X1 rfl rfl (Nat.le_of_ble_eq_true rfl) dX1_tell_62 ⟨Nat.le_of_ble_eq_true rfl, Nat.le_of_ble_eq_true rfl⟩ (fun r_6 ρ_5 h_7 => ?_)
    obtain ⟨er_6, e9⟩ := h_7
    rw [e9, er_6]
    clear e9
    exact g_iret X hr hlk (by omega) (by omega) dX1_tell_65 (⟨rfl, rfl⟩)

set_option maxHeartbeats 1000000 in
set_option maxRecDepth 100000 in
theorem c_X2_append (l : Launch) (D : va_G) (cy : Nat → ClassId) (ad : Nat → Nat) (ρ : Nat → Nat → Int32) (t L q : Nat) (ht : t < 6) (hL : ρ (14 + 3 * t) 2 = nI L) (hL16 : L < 16) (hq : q < 12) : gMI l yX2_append cX2_append 2 (some .int) { frames := 0, cells := 0, slots := 0, locals := 0 } D cy 48 ad (cC ad cy) [.ref (ad (14 + 3 * t)), .int (nI q)] ρ (fun r ρ1 => r = nI (L + 1) ∧ ρ1 = up2 (up2 (up2 ρ (15 + 3 * t) L (nI q)) (16 + 3 * t) q (ρ (16 + 3 * t) q + 1)) (14 + 3 * t) 2 (nI (L + 1))) 0 0 := by
  refine gMI_of (ls := [(0, .ref (ad (14 + 3 * t))), (1, .int (nI q))]) RX2 rfl (by decide +kernel) (Nat.le_of_ble_eq_true rfl) rfl ?_
  intro p e s m args below meth c A X hr hlk hnm
  refine g_aload_n X dX2_append_0 0 rfl rfl ?_
  refine g_getr X (14 + 3 * t) (by omega) 0 (by decide) ku_X2 kv_X2 kf_X2_9 rfl (lC_f_notes ht) dX2_append_1 ?_
  refine g_aload_n X dX2_append_4 0 rfl rfl ?_
  refine g_geti X (14 + 3 * t) (by omega) 2 (by decide) ku_X2 kv_X2 kf_X2_18 rfl (lC_f_length ht) dX2_append_5 ?_
  rw [hL]
  refine g_iload_n X dX2_append_8 1 rfl rfl ?_
  refine g_iastN X (15 + 3 * t) L (by omega) (lC_notes ht) (by omega) (by decide) dX2_append_9 (fun ρ_1 eρ_1 => ?_)
  refine g_aload_n X dX2_append_10 0 rfl rfl ?_
  refine g_getr X (14 + 3 * t) (by omega) 1 (by decide) ku_X2 kv_X2 kf_X2_15 rfl (lC_f_times ht) dX2_append_11 ?_
  refine g_iload_n X dX2_append_14 1 rfl rfl ?_
  refine g_dup2 X dX2_append_15 rfl rfl ?_
  refine g_ialdN X (16 + 3 * t) q (by omega) (lC_times ht) (by omega) (by decide) dX2_append_16 ?_
  rw [show ρ_1 (16 + 3 * t) q = ρ (16 + 3 * t) q by subst_vars; rw [up2_k (by omega)]]
  refine g_iconst X (v := 1) dX2_append_17 (by decide) ?_
  refine g_iadd X dX2_append_18 ?_
  refine g_iastN X (16 + 3 * t) q (by omega) (lC_times ht) (by omega) (by decide) dX2_append_19 (fun ρ_2 eρ_2 => ?_)
  refine g_aload_n X dX2_append_20 0 rfl rfl ?_
  refine g_dup X dX2_append_21 rfl ?_
  refine g_geti X (14 + 3 * t) (by omega) 2 (by decide) ku_X2 kv_X2 kf_X2_18 rfl (lC_f_length ht) dX2_append_22 ?_
  rw [show ρ_2 (14 + 3 * t) 2 = nI L by subst_vars; rw [up2_k (by omega), up2_k (by omega)]; exact hL]
  refine g_iconst X (v := 1) dX2_append_25 (by decide) ?_
  refine g_iadd X dX2_append_26 ?_
  rw [nI_1]
  refine g_puti X (14 + 3 * t) (by omega) 2 (by decide) ku_X2 kv_X2 kf_X2_18 rfl tyX2 tyX2_ok nmX2 rfl (by decide +kernel) (lC_f_length ht) dX2_append_27 (fun ρ_3 eρ_3 => ?_)
  refine g_aload_n X dX2_append_30 0 rfl rfl ?_
  refine g_geti X (14 + 3 * t) (by omega) 2 (by decide) ku_X2 kv_X2 kf_X2_18 rfl (lC_f_length ht) dX2_append_31 ?_
  rw [show ρ_3 (14 + 3 * t) 2 = nI (L + 1) by subst_vars; rw [up2_s]]
  exact g_iret X hr hlk (by omega) (by omega) dX2_append_34 (by subst_vars; exact ⟨rfl, rfl⟩)

set_option maxHeartbeats 1000000 in
set_option maxRecDepth 100000 in
theorem c_X2_soundSparing (l : Launch) (D : va_G) (cy : Nat → ClassId) (ad : Nat → Nat) (ρ : Nat → Nat → Int32) (t b : Nat) (sp : Int32) (ht : t < 6) (hb : isP b) : gMI l yX2_soundSparing cX2_soundSparing 5 (some .int) { frames := 2, cells := 0, slots := 0, locals := 42 } D cy 48 ad (cC ad cy) [.ref (ad (14 + 3 * t)), .ref (ad b), .int sp] ρ (fun r ρ1 => r = sndC ρ b t sp ∧ ρ1 = ρ) 0 0 := by
  refine gMI_of (ls := [(0, .ref (ad (14 + 3 * t))), (1, .ref (ad b)), (2, .int sp)]) RX2 rfl (by decide +kernel) (Nat.le_of_ble_eq_true rfl) rfl ?_
  intro p e s m args below meth c A X hr hlk hnm
  have hb9 := isP_lt hb
  refine g_aload_n X dX2_soundSparing_0 0 rfl rfl ?_
  refine g_geti X (14 + 3 * t) (by omega) 2 (by decide) ku_X2 kv_X2 kf_X2_18 rfl (lC_f_length ht) dX2_soundSparing_1 ?_
  refine g_if_ne X 9 dX2_soundSparing_4 (by decide) (fun c_1 => ?_) (fun c_1 => ?_)
  · skip
    refine g_iconst X (v := 0) dX2_soundSparing_9 (by decide) ?_
    refine g_istore_n X [(3, .int _), (0, .ref _), (1, .ref _), (2, .int _)] dX2_soundSparing_10 rfl (by decide) rfl ?_
    refine g_iconst X (v := 0) dX2_soundSparing_11 (by decide) ?_
    refine g_istore X [(4, .int _), (3, .int _), (0, .ref _), (1, .ref _), (2, .int _)] dX2_soundSparing_12 (by decide) rfl ?_
    refine g_ls (ls' := [(0, .ref _), (1, .ref _), (2, .int _), (3, .int _), (4, .int _)]) [2, 3, 4, 1, 0] rfl ?_
    refine g_loop (fun _ => True) (fun _ => ρ) (fun i => [(0, .ref (ad (14 + 3 * t))), (1, .ref (ad b)), (2, .int sp), (3, .int (sumI (fun i => if nI i = sp then 0 else ρ (16 + 3 * t) i * hP ρ b i) i)), (4, .int (nI i))]) (fun _ => 0) (fun _ => 0) 12 0 trivial (by omega) rfl rfl rfl rfl (fun i h0i hi hIi ihi => ?_)
    refine g_iload X dX2_soundSparing_14 4 rfl ?_
    refine g_bipush X (v := 12) dX2_soundSparing_16 (by decide) ?_
    refine g_icmp_geN X i 12 50 (by omega) (by omega) dX2_soundSparing_18 (by decide) (fun c_2 => ?_) (fun c_2 => ?_)
    · skip
      refine g_bipush X (v := 60) dX2_soundSparing_50 (by decide) ?_
      refine g_iload_n X dX2_soundSparing_52 3 rfl rfl ?_
      refine g_aload_n X dX2_soundSparing_53 0 rfl rfl ?_
      refine g_geti X (14 + 3 * t) (by omega) 2 (by decide) ku_X2 kv_X2 kf_X2_18 rfl (lC_f_length ht) dX2_soundSparing_54 ?_
      refine g_idiv X dX2_soundSparing_57 c_1 ?_
      refine g_isub X dX2_soundSparing_58 ?_
      exact g_iret X hr hlk (by omega) (by omega) dX2_soundSparing_59 (⟨by simp only [sndC]; rw [if_neg c_1, show i = 12 by omega], rfl⟩)
    · skip
      refine g_iload X dX2_soundSparing_21 4 rfl ?_
      refine g_iload_n X dX2_soundSparing_23 2 rfl rfl ?_
      refine g_icmp_eq X 44 dX2_soundSparing_24 (by decide) (fun c_3 => ?_) (fun c_3 => ?_)
      · skip
        refine g_iincN X i 4 [(4, .int _), (0, .ref _), (1, .ref _), (2, .int _), (3, .int _)] 4 dX2_soundSparing_44 rfl (by decide) rfl ?_
        refine g_goto X 14 dX2_soundSparing_47 (by decide) ?_
        refine g_ls (ls' := [(0, .ref _), (1, .ref _), (2, .int _), (3, .int _), (4, .int _)]) [1, 2, 3, 4, 0] rfl ?_
        exact g_eqv (ihi (by omega) trivial) (by simp only [sumI, *, ↓reduceIte, Int32.add_zero]) (rfl) rfl rfl
      · skip
        refine g_iload_n X dX2_soundSparing_27 3 rfl rfl ?_
        refine g_aload_n X dX2_soundSparing_28 0 rfl rfl ?_
        refine g_getr X (14 + 3 * t) (by omega) 1 (by decide) ku_X2 kv_X2 kf_X2_15 rfl (lC_f_times ht) dX2_soundSparing_29 ?_
        refine g_iload X dX2_soundSparing_32 4 rfl ?_
        refine g_ialdN X (16 + 3 * t) i (by omega) (lC_times ht) (by omega) (by decide) dX2_soundSparing_34 ?_
        refine g_aload_n X dX2_soundSparing_35 1 rfl rfl ?_
        refine g_iload X dX2_soundSparing_36 4 rfl ?_
        refine g_mcallVi X b (c_X0_harmOf l D cy ad ρ b i hb (by omega)) kl_X2_26 ⟨rfl, rfl, Nat.le_of_ble_eq_true rfl, Nat.le_of_ble_eq_true rfl⟩ (by omega) (lC_P hb) kv_X0 rfl rfl (Nat.le_of_ble_eq_true rfl) dX2_soundSparing_38 ⟨Nat.le_of_ble_eq_true rfl, Nat.le_of_ble_eq_true rfl⟩ (fun r_5 ρ_4 h_6 => ?_)
        obtain ⟨er_5, e9⟩ := h_6
        rw [e9, er_5]
        clear e9
        refine g_imul X dX2_soundSparing_41 ?_
        refine g_iadd X dX2_soundSparing_42 ?_
        refine g_istore_n X [(3, .int _), (0, .ref _), (1, .ref _), (2, .int _), (4, .int _)] dX2_soundSparing_43 rfl (by decide) rfl ?_
        refine g_iincN X i 4 [(4, .int _), (3, .int _), (0, .ref _), (1, .ref _), (2, .int _)] 4 dX2_soundSparing_44 rfl (by decide) rfl ?_
        refine g_goto X 14 dX2_soundSparing_47 (by decide) ?_
        refine g_ls (ls' := [(0, .ref _), (1, .ref _), (2, .int _), (3, .int _), (4, .int _)]) [2, 3, 4, 1, 0] rfl ?_
        exact g_eqv (ihi (by omega) trivial) (by simp only [sumI, *, ↓reduceIte, Int32.add_zero]) (rfl) rfl rfl
  · skip
    refine g_iconst X (v := 0) dX2_soundSparing_7 (by decide) ?_
    exact g_iret X hr hlk (by omega) (by omega) dX2_soundSparing_8 (⟨by simp only [sndC]; rw [if_pos c_1], rfl⟩)

set_option maxHeartbeats 1000000 in
set_option maxRecDepth 100000 in
theorem c_X2_soundOf (l : Launch) (D : va_G) (cy : Nat → ClassId) (ad : Nat → Nat) (ρ : Nat → Nat → Int32) (t b : Nat) (ht : t < 6) (hb : isP b) : gMI l yX2_soundOf cX2_soundOf 2 (some .int) { frames := 3, cells := 0, slots := 0, locals := 66 } D cy 48 ad (cC ad cy) [.ref (ad (14 + 3 * t)), .ref (ad b)] ρ (fun r ρ1 => r = sndC ρ b t (-1) ∧ ρ1 = ρ) 0 0 := by
  refine gMI_of (ls := [(0, .ref (ad (14 + 3 * t))), (1, .ref (ad b))]) RX2 rfl (by decide +kernel) (Nat.le_of_ble_eq_true rfl) rfl ?_
  intro p e s m args below meth c A X hr hlk hnm
  have hb9 := isP_lt hb
  refine g_aload_n X dX2_soundOf_0 0 rfl rfl ?_
  refine g_aload_n X dX2_soundOf_1 1 rfl rfl ?_
  refine g_iconst X (v := -1) dX2_soundOf_2 (by decide) ?_
  refine g_mcallVi X (14 + 3 * t) (c_X2_soundSparing l D cy ad ρ t b _ ht hb) kl_X2_22 ⟨rfl, rfl, Nat.le_of_ble_eq_true rfl, Nat.le_of_ble_eq_true rfl⟩ (by omega) (lC_T ht) kv_X2 rfl rfl (Nat.le_of_ble_eq_true rfl) dX2_soundOf_3 ⟨Nat.le_of_ble_eq_true rfl, Nat.le_of_ble_eq_true rfl⟩ (fun r_2 ρ_1 h_3 => ?_)
  obtain ⟨er_2, e9⟩ := h_3
  rw [e9, er_2]
  clear e9
  exact g_iret X hr hlk (by omega) (by omega) dX2_soundOf_6 (⟨rfl, rfl⟩)

set_option maxHeartbeats 1000000 in
set_option maxRecDepth 100000 in
theorem c_X2_wearDown (l : Launch) (D : va_G) (cy : Nat → ClassId) (ad : Nat → Nat) (ρ : Nat → Nat → Int32) (t b : Nat) (ht : t < 6) (hb : isP b) : gMV l yX2_wearDown cX2_wearDown 3 none { frames := 2, cells := 0, slots := 0, locals := 43 } D cy 48 ad (cC ad cy) [.ref (ad (14 + 3 * t)), .ref (ad b)] ρ (fun ρ1 => ρ1 = wdR ρ b t 12) 0 0 := by
  refine gMV_of (ls := [(0, .ref (ad (14 + 3 * t))), (1, .ref (ad b))]) RX2 rfl (by decide +kernel) (Nat.le_of_ble_eq_true rfl) rfl ?_
  intro p e s m args below meth c A X hr hlk hnm
  have hb9 := isP_lt hb
  refine g_iconst X (v := 0) dX2_wearDown_0 (by decide) ?_
  refine g_istore_n X [(2, .int _), (0, .ref _), (1, .ref _)] dX2_wearDown_1 rfl (by decide) rfl ?_
  refine g_ls (ls' := [(0, .ref _), (1, .ref _), (2, .int _)]) [1, 2, 0] rfl ?_
  refine g_loop (fun _ => True) (fun i => wdR ρ b t i) (fun i => [(0, .ref (ad (14 + 3 * t))), (1, .ref (ad b)), (2, .int (nI i))]) (fun _ => 0) (fun _ => 0) 12 0 trivial (by omega) rfl (by funext k j; simp [wdR]) rfl rfl (fun i h0i hi hIi ihi => ?_)
  obtain ⟨ρa, eρa⟩ : ∃ ρz, ρz = wdR ρ b t i := ⟨_, rfl⟩
  rw [← eρa]
  have qt : ∀ j, ρa (16 + 3 * t) j = ρ (16 + 3 * t) j := fun j => by rw [eρa]; simp only [wdR]; split; rw [if_neg (by omega), if_neg (by omega)]; rfl
  have qw : ρa (b + 1) i = ρ (b + 1) i := by rw [eρa]; simp [wdR]
  refine g_iload_n X dX2_wearDown_2 2 rfl rfl ?_
  refine g_bipush X (v := 12) dX2_wearDown_3 (by decide) ?_
  refine g_icmp_geN X i 12 34 (by omega) (by omega) dX2_wearDown_5 (by decide) (fun c_1 => ?_) (fun c_1 => ?_)
  · skip
    exact g_vret X hr hlk (by omega) (by omega) dX2_wearDown_34 (by subst_vars; rw [show i = 12 by omega])
  · skip
    refine g_aload_n X dX2_wearDown_8 0 rfl rfl ?_
    refine g_getr X (14 + 3 * t) (by omega) 1 (by decide) ku_X2 kv_X2 kf_X2_15 rfl (lC_f_times ht) dX2_wearDown_9 ?_
    refine g_iload_n X dX2_wearDown_12 2 rfl rfl ?_
    refine g_ialdN X (16 + 3 * t) i (by omega) (lC_times ht) (by omega) (by decide) dX2_wearDown_13 ?_
    rw [qt]
    refine g_if_le X 28 dX2_wearDown_14 (by decide) (fun c_2 => ?_) (fun c_2 => ?_)
    · skip
      refine g_iincN X i 2 [(2, .int _), (0, .ref _), (1, .ref _)] 2 dX2_wearDown_28 rfl (by decide) rfl ?_
      refine g_goto X 2 dX2_wearDown_31 (by decide) ?_
      refine g_ls (ls' := [(0, .ref _), (1, .ref _), (2, .int _)]) [1, 2, 0] rfl ?_
      exact g_eqv (ihi (by omega) trivial) (rfl) (by subst_vars; funext k j; simp only [up2_e, qw, wdR]; grind) rfl rfl
    · skip
      refine g_aload_n X dX2_wearDown_17 1 rfl rfl ?_
      refine g_iload_n X dX2_wearDown_18 2 rfl rfl ?_
      refine g_aload_n X dX2_wearDown_19 0 rfl rfl ?_
      refine g_getr X (14 + 3 * t) (by omega) 1 (by decide) ku_X2 kv_X2 kf_X2_15 rfl (lC_f_times ht) dX2_wearDown_20 ?_
      refine g_iload_n X dX2_wearDown_23 2 rfl rfl ?_
      refine g_ialdN X (16 + 3 * t) i (by omega) (lC_times ht) (by omega) (by decide) dX2_wearDown_24 ?_
      rw [qt]
      refine g_mcallVv X b (c_X0_wear l D cy ad ρa b i _ hb (by omega)) kl_X2_32 ⟨rfl, rfl, Nat.le_of_ble_eq_true rfl, Nat.le_of_ble_eq_true rfl⟩ (by omega) (lC_P hb) kv_X0 rfl rfl (Nat.le_of_ble_eq_true rfl) dX2_wearDown_25 ⟨Nat.le_of_ble_eq_true rfl, Nat.le_of_ble_eq_true rfl⟩ (fun ρ_3 h_5 => ?_)
      refine g_iincN X i 2 [(2, .int _), (0, .ref _), (1, .ref _)] 2 dX2_wearDown_28 rfl (by decide) rfl ?_
      refine g_goto X 2 dX2_wearDown_31 (by decide) ?_
      refine g_ls (ls' := [(0, .ref _), (1, .ref _), (2, .int _)]) [1, 2, 0] rfl ?_
      exact g_eqv (ihi (by omega) trivial) (rfl) (by subst_vars; funext k j; simp only [up2_e, qw, wdR]; grind) rfl rfl

set_option maxHeartbeats 1000000 in
set_option maxRecDepth 100000 in
theorem c_J9_floorMod_7cf53 (l : Launch) (D : va_G) (cy : Nat → ClassId) (ad : Nat → Nat) (ρ : Nat → Nat → Int32) (d : Nat) (hd : d < 2 ^ 31) : gMI l yJ9_floorMod_7cf53 cJ9_floorMod_7cf53 3 (some .int) { frames := 0, cells := 0, slots := 0, locals := 0 } D cy 48 ad (cC ad cy) [.int (nI d), .int (nI 7)] ρ (fun r ρ1 => r = nI (d % 7) ∧ ρ1 = ρ) 0 0 := by
  refine gMI_of (ls := [(0, .int (nI d)), (1, .int (nI 7))]) RJ9 rfl (by decide +kernel) (Nat.le_of_ble_eq_true rfl) rfl ?_
  intro p e s m args below meth c A X hr hlk hnm
  refine g_iload_n X dJ9_floorMod_7cf53_0 0 rfl rfl ?_
  refine g_iload_n X dJ9_floorMod_7cf53_1 1 rfl rfl ?_
  refine g_irem X dJ9_floorMod_7cf53_2 (by decide) ?_
  rw [show nI d - nI d / nI 7 * nI 7 = nI (d % 7) from pk_rem (d := 7) hd (by omega) (by omega)]
  refine g_istore_n X [(2, .int _), (0, .int _), (1, .int _)] dJ9_floorMod_7cf53_3 rfl (by decide) rfl ?_
  refine g_iload_n X dJ9_floorMod_7cf53_4 1 rfl rfl ?_
  refine g_iload_n X dJ9_floorMod_7cf53_5 2 rfl rfl ?_
  refine g_ixor X dJ9_floorMod_7cf53_6 ?_
  refine g_if_ge X 18 dJ9_floorMod_7cf53_7 (by decide) (fun c_1 => ?_) (fun c_1 => ?_)
  · skip
    refine g_iload_n X dJ9_floorMod_7cf53_18 0 rfl rfl ?_
    exact g_iret X hr hlk (by omega) (by omega) dJ9_floorMod_7cf53_19 (⟨rfl, rfl⟩)
  · exfalso; exact c_1 (xorN hd (by omega))

set_option maxHeartbeats 1000000 in
set_option maxRecDepth 100000 in
theorem c_X3_weekdayOf (l : Launch) (D : va_G) (cy : Nat → ClassId) (ad : Nat → Nat) (ρ : Nat → Nat → Int32) (d : Nat) (hd : d < 2 ^ 31) : gMI l yX3_weekdayOf cX3_weekdayOf 1 (some .int) { frames := 1, cells := 0, slots := 0, locals := 22 } D cy 48 ad (cC ad cy) [.int (nI d)] ρ (fun r ρ1 => r = nI (d % 7) ∧ ρ1 = ρ) 0 0 := by
  refine gMI_of (ls := [(0, .int (nI d))]) RX3 rfl (by decide +kernel) (Nat.le_of_ble_eq_true rfl) rfl ?_
  intro p e s m args below meth c A X hr hlk hnm
  refine g_iload_n X dX3_weekdayOf_0 0 rfl rfl ?_
  refine g_bipush X (v := 7) dX3_weekdayOf_1 (by decide) ?_
  refine g_mcallSi X (c_J9_floorMod_7cf53 l D cy ad ρ d (by omega)) kl_X3_210 ⟨rfl, rfl, Nat.le_of_ble_eq_true rfl, Nat.le_of_ble_eq_true rfl⟩ rfl rfl (Nat.le_of_ble_eq_true rfl) dX3_weekdayOf_3 ⟨Nat.le_of_ble_eq_true rfl, Nat.le_of_ble_eq_true rfl⟩ (fun r_2 ρ_1 h_3 => ?_)
  obtain ⟨er_2, e9⟩ := h_3
  rw [e9, er_2]
  clear e9
  exact g_iret X hr hlk (by omega) (by omega) dX3_weekdayOf_6 (⟨rfl, rfl⟩)
end
section
/-! The calls as functions of the class's cells: the answer's kind (0: it returns; 1, 2: which of its exceptions), the answer, the cells behind it -/
abbrev inb (x m : Int32) : Prop := ¬ x < 0 ∧ x < m
abbrev inl (x m : Int32) : Prop := ¬ x < 0 ∧ x ≤ m
abbrev ix (x : Int32) : Nat := x.toNatClampNeg
abbrev gSt : Type := Nat → Nat → Int32
abbrev gOut : Type := Nat × Int32 × gSt
def barF (ρ : gSt) : gOut := if ρ 0 5 = 6 then (1, 0, ρ) else (0, ρ 0 5, up2 ρ 0 5 (ρ 0 5 + 1))
def pinF (ρ : gSt) (x y : Int32) : gOut := if inb x (ρ 0 5) then (if inb y 12 then (if ρ (14 + 3 * ix x) 2 = 16 then (2, 0, ρ) else (0, ρ (14 + 3 * ix x) 2 + 1, up2 (up2 (up2 ρ (15 + 3 * ix x) (ix (ρ (14 + 3 * ix x) 2)) y) (16 + 3 * ix x) (ix y) (ρ (16 + 3 * ix x) (ix y) + 1)) (14 + 3 * ix x) 2 (ρ (14 + 3 * ix x) 2 + 1))) else (1, 0, ρ)) else (1, 0, ρ)
def notF (ρ : gSt) (x y : Int32) : gOut := if inb x (ρ 0 5) then (if inb y (ρ (14 + 3 * ix x) 2) then (0, ρ (15 + 3 * ix x) (ix y), ρ) else (1, 0, ρ)) else (1, 0, ρ)
def strF (ρ : gSt) (x y : Int32) : gOut := if inl x 90 then (if inl y 127 then (if ρ 0 6 = 8 then (2, 0, ρ) else (0, ρ 0 6, up2 (up2 (up2 ρ (32 + 2 * ix (ρ 0 6)) 1 x) (32 + 2 * ix (ρ 0 6)) 2 y) 0 6 (ρ 0 6 + 1))) else (1, 0, ρ)) else (1, 0, ρ)
def perF (ρ : gSt) (x y : Int32) : gOut := if inb x (ρ 0 6) then (if inl y 127 then (0, ρ (32 + 2 * ix x) 2, up2 ρ (32 + 2 * ix x) 2 y) else (2, 0, ρ)) else (1, 0, ρ)
def damF (ρ : gSt) (x y : Int32) : gOut := if inb x 7 then (if inl y 5 then (0, ρ 13 (ix x), up2 ρ 13 (ix x) y) else (2, 0, ρ)) else (1, 0, ρ)
def finR (ρ : gSt) : gSt := up2 (up2 ρ 0 8 (ρ 0 8 - mnI 10 (ρ 0 8))) 0 9 (ρ 0 9 + mnI 10 (ρ 0 8))
def plyR (ρ : gSt) (z t : Nat) : gSt := wdR (up2 (up2 (up2 ρ 0 8 (ρ 0 8 + pyN ρ z t)) (32 + 2 * z) 3 (ρ (32 + 2 * z) 3 + pyN ρ z t)) (33 + 2 * z) t (ρ (33 + 2 * z) t + 1)) 1 t 12
def plaF (ρ : gSt) (x y : Int32) : gOut := if inb x (ρ 0 6) then (if inb y (ρ 0 5) then (if ρ (14 + 3 * ix y) 2 = 0 then (2, 0, ρ) else (if pmF (ρ (32 + 2 * ix x) 2) (wdF ρ) = 0 then (0, -mnI 10 (ρ 0 8), finR ρ) else (0, pyN ρ (ix x) (ix y), plyR ρ (ix x) (ix y)))) else (1, 0, ρ)) else (1, 0, ρ)
def tunF (ρ : gSt) (x y : Int32) : gOut := if inb x 12 then (if ¬ y < -120 ∧ y ≤ 120 then (0, hd (ρ 3 (ix x) + y), up2 ρ 3 (ix x) (hd (ρ 3 (ix x) + y))) else (2, 0, ρ)) else (1, 0, ρ)
def felF (ρ : gSt) (x : Int32) : gOut := if inb x 12 then (if ρ 0 8 < 4 then (2, 0, ρ) else (0, ρ 2 (ix x), up2 (up2 ρ 0 8 (ρ 0 8 - 4)) 2 (ix x) 0)) else (1, 0, ρ)
def pipF (ρ : gSt) (x y : Int32) : gOut := if inb x 12 then (if inb y 5 then (0, tellF ρ 1 (ix x) (ix y), ρ) else (1, 0, ρ)) else (1, 0, ρ)
def souF (ρ : gSt) (x : Int32) : gOut := if inb x (ρ 0 5) then (0, sndC ρ 1 (ix x) (-1), ρ) else (1, 0, ρ)
def tolF (ρ : gSt) (x y : Int32) : gOut := if inb x (ρ 0 6) then (if inb y 5 then (0, toldF ρ (ix x) (ix y) (wdF ρ), ρ) else (1, 0, ρ)) else (1, 0, ρ)
def couF (ρ : gSt) (x : Int32) : gOut := if inb x 9 then (0, countF ρ (ix x), ρ) else (1, 0, ρ)
def fgA (ρ : gSt) (q : Nat) : gSt := fun k j => if 33 ≤ k ∧ k < 33 + 2 * q ∧ k % 2 = 1 ∧ j < 6 then 0 else ρ k j
def resR (ρ : gSt) (n : Nat) : gSt := up2 (fgA (nsR ρ 1 (ix (ρ 0 7)) n) (ix (ρ 0 6))) 0 7 (nI (ix (ρ 0 7) + n))
def resF (ρ : gSt) (x : Int32) : gOut := if ¬ x < 1 ∧ x ≤ 60 then (0, csF ρ 1 (ix (ρ 0 7)) (ix x), resR ρ (ix x)) else (1, 0, ρ)
def payF (ρ : gSt) (x y : Int32) : gOut := if inb x (ρ 0 6) then (if inb y (ρ 0 5) then (0, pyN ρ (ix x) (ix y), ρ) else (1, 0, ρ)) else (1, 0, ρ)
def bsP (ρ : gSt) (z : Nat) : Nat → Int32 × Int32
  | 0 => (0, -1)
  | k + 1 => if pyN ρ z k ≤ (bsP ρ z k).1 then bsP ρ z k else (pyN ρ z k, nI k)
def besF (ρ : gSt) (x : Int32) : gOut := if inb x (ρ 0 6) then (0, (bsP ρ (ix x) (ix (ρ 0 5))).2, ρ) else (1, 0, ρ)
def wsP (ρ : gSt) (t : Nat) : Nat → Int32 × Int32
  | 0 => (sndC ρ 1 t (-1), -1)
  | k + 1 => if sndC ρ 1 t (nI k) ≤ (wsP ρ t k).1 then wsP ρ t k else (sndC ρ 1 t (nI k), nI k)
def worF (ρ : gSt) (x : Int32) : gOut := if inb x (ρ 0 5) then (0, (wsP ρ (ix x) 12).2, ρ) else (1, 0, ρ)
def forR (ρ : gSt) (n : Nat) : gSt := nsR (becR ρ 12) 6 (ix (ρ 0 7)) n
def forF (ρ : gSt) (x y : Int32) : gOut := if ¬ x < 1 ∧ x ≤ 60 then (if ¬ y < 5 ∧ y ≤ 7 then (0, sumUpF (forR ρ (ix x)) 6 (ix y), forR ρ (ix x)) else (2, 0, ρ)) else (1, 0, ρ)
/-- the trial behind k plays -/
def trR (ρ : gSt) (t : Nat) : Nat → gSt
  | 0 => becR ρ 12
  | k + 1 => wdR (trR ρ t k) 6 t 12
def laK (ρ : gSt) (t : Nat) : Nat → Nat → Nat
  | 0, k => k
  | f + 1, k => if sndC (trR ρ t k) 6 t (-1) < 30 then k else laK ρ t f (k + 1)
def lasF (ρ : gSt) (x : Int32) : gOut := if inb x (ρ 0 5) then (0, nI (laK ρ (ix x) 99 0), trR ρ (ix x) (laK ρ (ix x) 99 0)) else (1, 0, ρ)
def meaF (ρ : gSt) : UInt64 := if ρ 0 5 = 0 then 0 else FP.ddiv (FP.i2d (sumI (fun t => sndC ρ 1 t (-1)) (ix (ρ 0 5)))) (FP.i2d (ρ 0 5))
def fold1 (g : Nat → Int64 → Int64) : Nat → Int64 → Int64
  | 0, d => d
  | k + 1, d => g k (fold1 g k d)
def digF (ρ : gSt) : Int64 := fold1 (msF ρ) (ix (ρ 0 6)) (fold1 (mtF ρ) (ix (ρ 0 5)) (mxs (fun j => ρ 13 j) 7 (fold1 (fun i d => mxs (fun w => tellF ρ 1 i w) 5 d) 12 (mxs (countF ρ) 9 1097))))
/-- what holds of the class's cells between two calls, behind N of them -/
def cntI (f : Nat → Int32) (x : Int32) (k : Nat) : Int32 := sumI (fun j => if f j = x then 1 else 0) k
def tunI (ρ : gSt) (t : Nat) : Prop := ∃ L : Nat, ρ (14 + 3 * t) 2 = nI L ∧ L ≤ 16 ∧ (∀ k, k < L → ∃ q : Nat, q < 12 ∧ ρ (15 + 3 * t) k = nI q) ∧ ∀ q, q < 12 → ρ (16 + 3 * t) q = cntI (ρ (15 + 3 * t)) (nI q) L
def strI (ρ : gSt) (N z : Nat) : Prop := (∃ u : Nat, u ≤ 90 ∧ ρ (32 + 2 * z) 1 = nI u) ∧ ∀ t, t < 6 → ∃ h : Nat, h ≤ N ∧ ρ (33 + 2 * z) t = nI h
def pipI (ρ : gSt) (b i : Nat) : Prop := (∃ w : Nat, w ≤ 30 ∧ ρ (b + 1) i = nI w) ∧ (-60 ≤ ρ (b + 2) i ∧ ρ (b + 2) i ≤ 60) ∧ (ρ (b + 3) i = 0 ∨ ρ (b + 3) i = 1) ∧ (ρ (b + 4) i = 0 ∨ ρ (b + 4) i = 1)
def Inv (ρ : gSt) (N T S d : Nat) : Prop := ρ 0 5 = nI T ∧ T ≤ 6 ∧ ρ 0 6 = nI S ∧ S ≤ 8 ∧ ρ 0 7 = nI d ∧ d ≤ 60 * N ∧ N ≤ 600 ∧ (∀ t, t < 6 → tunI ρ t) ∧ (∀ z, z < 8 → strI ρ N z) ∧ (∀ i, i < 12 → pipI ρ 1 i) ∧ ∀ z, S ≤ z → z < 8 → ∀ t, t < 6 → ρ (33 + 2 * z) t = 0
theorem inb_N {x m : Int32} {T : Nat} (hm : m = nI T) (hT : T < 2 ^ 31) (h : inb x m) : ∃ t : Nat, t < T ∧ x = nI t := by
  rcases pk_ix x hT with q | q | q
  · exact absurd q h.1
  · rw [hm] at h
    rw [Int32.le_iff_toInt_le] at q
    have := Int32.lt_iff_toInt_lt.mp h.2
    omega
  · exact q
theorem inl_N {x m : Int32} {K : Nat} (hm : m = nI K) (hK : K < 2 ^ 30) (h : inl x m) : ∃ t : Nat, t ≤ K ∧ x = nI t := by
  subst hm
  exact nI_of2 (nI_toInt (by omega)) h.1 h.2
theorem inb_of {t T : Nat} (h : t < T) (hT : T < 2 ^ 31) : inb (nI t) (nI T) := ⟨fun q => by
  rw [show (0 : Int32) = nI 0 from rfl, nI_ltI (by omega) (by omega)] at q
  omega, (nI_ltI (by omega) hT).mpr h⟩
theorem inl_of {t T : Nat} (h : t ≤ T) (hT : T < 2 ^ 31) : inl (nI t) (nI T) := ⟨fun q => by
  rw [show (0 : Int32) = nI 0 from rfl, nI_ltI (by omega) (by omega)] at q
  omega, (nI_leI (by omega) hT).mpr h⟩
theorem nig_N {x : Int32} (h : ¬ x < 1 ∧ x ≤ 60) : ∃ n : Nat, (1 ≤ n ∧ n ≤ 60) ∧ x = nI n := by
  have h0 : ¬ x < 0 := fun q => h.1 (Int32.lt_iff_toInt_lt.mpr (by have := Int32.lt_iff_toInt_lt.mp q; have e0 : (0 : Int32).toInt = 0 := rfl; have e1 : (1 : Int32).toInt = 1 := rfl; omega))
  obtain ⟨n, hn, rfl⟩ := nI_of2 (M := 60) (n := 60) rfl h0 h.2
  refine ⟨n, ⟨?_, hn⟩, rfl⟩
  rcases Nat.eq_zero_or_pos n with q | q
  · subst q
    exact absurd (by decide) h.1
  · exact q
theorem nI_ne {a b : Nat} (h : a ≠ b) (ha : a < 2 ^ 31) (hb : b < 2 ^ 31) : ¬ nI a = nI b := fun q => h ((nI_eq ha hb).mp q)
theorem fs_N {y : Int32} (h : ¬ y < 5 ∧ y ≤ 7) : ∃ w : Nat, (w = 5 ∨ w = 6 ∨ w = 7) ∧ y = nI w := by
  have h0 : ¬ y < 0 := fun q => h.1 (Int32.lt_iff_toInt_lt.mpr (by have := Int32.lt_iff_toInt_lt.mp q; have e0 : (0 : Int32).toInt = 0 := rfl; have e1 : (5 : Int32).toInt = 5 := rfl; omega))
  obtain ⟨n, hn, rfl⟩ := nI_of2 (M := 7) (n := 7) rfl h0 h.2
  refine ⟨n, ?_, rfl⟩
  rcases Nat.lt_or_ge n 5 with q | q
  · exact absurd ((nI_ltI (b := 5) (by omega) (by omega)).mpr q) h.1
  · omega
theorem fgA_0 {ρ : gSt} : fgA ρ 0 = ρ := by
  funext k j
  unfold fgA
  rw [if_neg (by omega)]
theorem Inv_mean {ρ : gSt} {N T S d : Nat} (hI : Inv ρ N T S d) (h0 : ¬ nI T = 0) : vf_n64 (FP.ddiv (FP.i2d (sumI (fun t => sndC ρ 1 t (-1)) T)) (FP.i2d (nI T))) := by
  sorry
theorem Inv_pay {ρ : gSt} {N T S d z t : Nat} (hI : Inv ρ N T S d) (hz : z < 8) (ht : t < 6) : payOK ρ z t (sndC ρ 1 t (-1)) := by
  sorry
theorem laK_spec {ρ : gSt} {t K : Nat} (hK : K ≤ 99) (h1 : ∀ j, j < K → ¬ sndC (trR ρ t j) 6 t (-1) < 30) (h2 : K = 99 ∨ sndC (trR ρ t K) 6 t (-1) < 30) : laK ρ t 99 0 = K := by
  have key : ∀ f k, k ≤ K → f + k = 99 → laK ρ t f k = K := by
    intro f
    induction f with
    | zero => intro k hk h; simp only [laK]; omega
    | succ f ih =>
      intro k hk h
      simp only [laK]
      by_cases hq : k = K
      · subst hq
        rw [if_pos (h2.resolve_left (by omega))]
      · rw [if_neg (h1 k (by omega))]
        exact ih (k + 1) (by omega) (by omega)
  exact key 99 0 (by omega) (by omega)
def xq1 (e1 : String) (k : Nat) : String → Prop := fun E => E = e1 ∧ k = 1
def xq2 (e1 e2 : String) (k : Nat) : String → Prop := fun E => (E = e1 ∧ k = 1) ∨ (E = e2 ∧ k = 2)
end
section
set_option maxHeartbeats 1000000 in
set_option maxRecDepth 100000 in
theorem c_X3_checkTune (l : Launch) (hl0 : l.stackTraces = false) (D : va_G) (cy : Nat → ClassId) (ad : Nat → Nat) (ρ : Nat → Nat → Int32) (x : Int32) : gXV l yX3_checkTune cX3_checkTune 2 none { frames := 6, cells := 1, slots := 6, locals := 90 } D cy 48 ad (cC ad cy) [.ref (ad 0), .int x] ρ (fun ρ1 => ρ1 = ρ ∧ inb x (ρ 0 5)) (fun E => E = "java/lang/IndexOutOfBoundsException" ∧ ¬ inb x (ρ 0 5)) 1 6 := by
  refine gXV_of (ls := [(0, .ref (ad 0)), (1, .int x)]) RX3 rfl (by decide +kernel) (Nat.le_of_ble_eq_true rfl) rfl ?_
  intro p e s m args below meth c A X hE hxt hr hlk
  refine g_iload_n X dX3_checkTune_0 1 rfl rfl ?_
  refine g_if_lt X 12 dX3_checkTune_1 (by decide) (fun c_1 => ?_) (fun c_1 => ?_)
  · skip
    exact g_throw X hE hl0 (names := ["java/lang/RuntimeException", "java/lang/Exception"]) (by decide +kernel) (by decide +kernel) kk_X3_67 ki_IOB kst_200 kh_IOB_71 kh_IOB_71g dX3_checkTune_12 dX3_checkTune_15 dX3_checkTune_16 dX3_checkTune_18 dX3_checkTune_21 hxt ⟨Nat.le_of_ble_eq_true rfl, Nat.le_of_ble_eq_true rfl, Nat.le_of_ble_eq_true rfl, Nat.le_of_ble_eq_true rfl⟩ hlk (⟨rfl, fun h => h.1 c_1⟩) (by omega) (by omega)
  · skip
    refine g_iload_n X dX3_checkTune_4 1 rfl rfl ?_
    refine g_aload_n X dX3_checkTune_5 0 rfl rfl ?_
    refine g_geti X 0 (by omega) 5 (by decide) ku_X3 kv_X3 kf_X3_41 rfl lC_o_tuneCount dX3_checkTune_6 ?_
    refine g_icmp_lt X 22 dX3_checkTune_9 (by decide) (fun c_2 => ?_) (fun c_2 => ?_)
    · skip
      exact g_xvret X hr hlk (by omega) (by omega) dX3_checkTune_22 (⟨rfl, c_1, c_2⟩)
    · skip
      exact g_throw X hE hl0 (names := ["java/lang/RuntimeException", "java/lang/Exception"]) (by decide +kernel) (by decide +kernel) kk_X3_67 ki_IOB kst_200 kh_IOB_71 kh_IOB_71g dX3_checkTune_12 dX3_checkTune_15 dX3_checkTune_16 dX3_checkTune_18 dX3_checkTune_21 hxt ⟨Nat.le_of_ble_eq_true rfl, Nat.le_of_ble_eq_true rfl, Nat.le_of_ble_eq_true rfl, Nat.le_of_ble_eq_true rfl⟩ hlk (⟨rfl, fun h => c_2 h.2⟩) (by omega) (by omega)

set_option maxHeartbeats 1000000 in
set_option maxRecDepth 100000 in
theorem c_X3_checkStreet (l : Launch) (hl0 : l.stackTraces = false) (D : va_G) (cy : Nat → ClassId) (ad : Nat → Nat) (ρ : Nat → Nat → Int32) (x : Int32) : gXV l yX3_checkStreet cX3_checkStreet 2 none { frames := 6, cells := 1, slots := 6, locals := 90 } D cy 48 ad (cC ad cy) [.ref (ad 0), .int x] ρ (fun ρ1 => ρ1 = ρ ∧ inb x (ρ 0 6)) (fun E => E = "java/lang/IndexOutOfBoundsException" ∧ ¬ inb x (ρ 0 6)) 1 6 := by
  refine gXV_of (ls := [(0, .ref (ad 0)), (1, .int x)]) RX3 rfl (by decide +kernel) (Nat.le_of_ble_eq_true rfl) rfl ?_
  intro p e s m args below meth c A X hE hxt hr hlk
  refine g_iload_n X dX3_checkStreet_0 1 rfl rfl ?_
  refine g_if_lt X 12 dX3_checkStreet_1 (by decide) (fun c_1 => ?_) (fun c_1 => ?_)
  · skip
    exact g_throw X hE hl0 (names := ["java/lang/RuntimeException", "java/lang/Exception"]) (by decide +kernel) (by decide +kernel) kk_X3_67 ki_IOB kst_202 kh_IOB_71 kh_IOB_71g dX3_checkStreet_12 dX3_checkStreet_15 dX3_checkStreet_16 dX3_checkStreet_18 dX3_checkStreet_21 hxt ⟨Nat.le_of_ble_eq_true rfl, Nat.le_of_ble_eq_true rfl, Nat.le_of_ble_eq_true rfl, Nat.le_of_ble_eq_true rfl⟩ hlk (⟨rfl, fun h => h.1 c_1⟩) (by omega) (by omega)
  · skip
    refine g_iload_n X dX3_checkStreet_4 1 rfl rfl ?_
    refine g_aload_n X dX3_checkStreet_5 0 rfl rfl ?_
    refine g_geti X 0 (by omega) 6 (by decide) ku_X3 kv_X3 kf_X3_83 rfl lC_o_streetCount dX3_checkStreet_6 ?_
    refine g_icmp_lt X 22 dX3_checkStreet_9 (by decide) (fun c_2 => ?_) (fun c_2 => ?_)
    · skip
      exact g_xvret X hr hlk (by omega) (by omega) dX3_checkStreet_22 (⟨rfl, c_1, c_2⟩)
    · skip
      exact g_throw X hE hl0 (names := ["java/lang/RuntimeException", "java/lang/Exception"]) (by decide +kernel) (by decide +kernel) kk_X3_67 ki_IOB kst_202 kh_IOB_71 kh_IOB_71g dX3_checkStreet_12 dX3_checkStreet_15 dX3_checkStreet_16 dX3_checkStreet_18 dX3_checkStreet_21 hxt ⟨Nat.le_of_ble_eq_true rfl, Nat.le_of_ble_eq_true rfl, Nat.le_of_ble_eq_true rfl, Nat.le_of_ble_eq_true rfl⟩ hlk (⟨rfl, fun h => c_2 h.2⟩) (by omega) (by omega)

set_option maxHeartbeats 1000000 in
set_option maxRecDepth 100000 in
theorem c_X3_checkPipe (l : Launch) (hl0 : l.stackTraces = false) (D : va_G) (cy : Nat → ClassId) (ad : Nat → Nat) (ρ : Nat → Nat → Int32) (x : Int32) : gXV l yX3_checkPipe cX3_checkPipe 1 none { frames := 6, cells := 1, slots := 6, locals := 90 } D cy 48 ad (cC ad cy) [.int x] ρ (fun ρ1 => ρ1 = ρ ∧ inb x 12) (fun E => E = "java/lang/IndexOutOfBoundsException" ∧ ¬ inb x 12) 1 6 := by
  refine gXV_of (ls := [(0, .int x)]) RX3 rfl (by decide +kernel) (Nat.le_of_ble_eq_true rfl) rfl ?_
  intro p e s m args below meth c A X hE hxt hr hlk
  refine g_iload_n X dX3_checkPipe_0 0 rfl rfl ?_
  refine g_if_lt X 10 dX3_checkPipe_1 (by decide) (fun c_1 => ?_) (fun c_1 => ?_)
  · skip
    exact g_throw X hE hl0 (names := ["java/lang/RuntimeException", "java/lang/Exception"]) (by decide +kernel) (by decide +kernel) kk_X3_67 ki_IOB kst_204 kh_IOB_71 kh_IOB_71g dX3_checkPipe_10 dX3_checkPipe_13 dX3_checkPipe_14 dX3_checkPipe_16 dX3_checkPipe_19 hxt ⟨Nat.le_of_ble_eq_true rfl, Nat.le_of_ble_eq_true rfl, Nat.le_of_ble_eq_true rfl, Nat.le_of_ble_eq_true rfl⟩ hlk (⟨rfl, fun h => h.1 c_1⟩) (by omega) (by omega)
  · skip
    refine g_iload_n X dX3_checkPipe_4 0 rfl rfl ?_
    refine g_bipush X (v := 12) dX3_checkPipe_5 (by decide) ?_
    refine g_icmp_lt X 20 dX3_checkPipe_7 (by decide) (fun c_2 => ?_) (fun c_2 => ?_)
    · skip
      exact g_xvret X hr hlk (by omega) (by omega) dX3_checkPipe_20 (⟨rfl, c_1, c_2⟩)
    · skip
      exact g_throw X hE hl0 (names := ["java/lang/RuntimeException", "java/lang/Exception"]) (by decide +kernel) (by decide +kernel) kk_X3_67 ki_IOB kst_204 kh_IOB_71 kh_IOB_71g dX3_checkPipe_10 dX3_checkPipe_13 dX3_checkPipe_14 dX3_checkPipe_16 dX3_checkPipe_19 hxt ⟨Nat.le_of_ble_eq_true rfl, Nat.le_of_ble_eq_true rfl, Nat.le_of_ble_eq_true rfl, Nat.le_of_ble_eq_true rfl⟩ hlk (⟨rfl, fun h => c_2 h.2⟩) (by omega) (by omega)

set_option maxHeartbeats 1000000 in
set_option maxRecDepth 100000 in
theorem c_X3_checkPermits (l : Launch) (hl0 : l.stackTraces = false) (D : va_G) (cy : Nat → ClassId) (ad : Nat → Nat) (ρ : Nat → Nat → Int32) (x : Int32) : gXV l yX3_checkPermits cX3_checkPermits 1 none { frames := 6, cells := 1, slots := 6, locals := 90 } D cy 48 ad (cC ad cy) [.int x] ρ (fun ρ1 => ρ1 = ρ ∧ inl x 127) (fun E => E = "java/lang/IllegalArgumentException" ∧ ¬ inl x 127) 1 6 := by
  refine gXV_of (ls := [(0, .int x)]) RX3 rfl (by decide +kernel) (Nat.le_of_ble_eq_true rfl) rfl ?_
  intro p e s m args below meth c A X hE hxt hr hlk
  refine g_iload_n X dX3_checkPermits_0 0 rfl rfl ?_
  refine g_if_lt X 10 dX3_checkPermits_1 (by decide) (fun c_1 => ?_) (fun c_1 => ?_)
  · skip
    exact g_throw X hE hl0 (names := ["java/lang/RuntimeException", "java/lang/Exception"]) (by decide +kernel) (by decide +kernel) kk_X3_75 ki_IAE kst_206 kh_IAE_79 kh_IAE_79g dX3_checkPermits_10 dX3_checkPermits_13 dX3_checkPermits_14 dX3_checkPermits_16 dX3_checkPermits_19 hxt ⟨Nat.le_of_ble_eq_true rfl, Nat.le_of_ble_eq_true rfl, Nat.le_of_ble_eq_true rfl, Nat.le_of_ble_eq_true rfl⟩ hlk (⟨rfl, fun h => h.1 c_1⟩) (by omega) (by omega)
  · skip
    refine g_iload_n X dX3_checkPermits_4 0 rfl rfl ?_
    refine g_bipush X (v := 127) dX3_checkPermits_5 (by decide) ?_
    refine g_icmp_le X 20 dX3_checkPermits_7 (by decide) (fun c_2 => ?_) (fun c_2 => ?_)
    · skip
      exact g_xvret X hr hlk (by omega) (by omega) dX3_checkPermits_20 (⟨rfl, c_1, c_2⟩)
    · skip
      exact g_throw X hE hl0 (names := ["java/lang/RuntimeException", "java/lang/Exception"]) (by decide +kernel) (by decide +kernel) kk_X3_75 ki_IAE kst_206 kh_IAE_79 kh_IAE_79g dX3_checkPermits_10 dX3_checkPermits_13 dX3_checkPermits_14 dX3_checkPermits_16 dX3_checkPermits_19 hxt ⟨Nat.le_of_ble_eq_true rfl, Nat.le_of_ble_eq_true rfl, Nat.le_of_ble_eq_true rfl, Nat.le_of_ble_eq_true rfl⟩ hlk (⟨rfl, fun h => c_2 h.2⟩) (by omega) (by omega)

set_option maxHeartbeats 1000000 in
set_option maxRecDepth 100000 in
theorem c_X3_checkNights (l : Launch) (hl0 : l.stackTraces = false) (D : va_G) (cy : Nat → ClassId) (ad : Nat → Nat) (ρ : Nat → Nat → Int32) (x : Int32) : gXV l yX3_checkNights cX3_checkNights 1 none { frames := 6, cells := 1, slots := 6, locals := 90 } D cy 48 ad (cC ad cy) [.int x] ρ (fun ρ1 => ρ1 = ρ ∧ (¬ x < 1 ∧ x ≤ 60)) (fun E => E = "java/lang/IllegalArgumentException" ∧ ¬ (¬ x < 1 ∧ x ≤ 60)) 1 6 := by
  refine gXV_of (ls := [(0, .int x)]) RX3 rfl (by decide +kernel) (Nat.le_of_ble_eq_true rfl) rfl ?_
  intro p e s m args below meth c A X hE hxt hr hlk
  refine g_iload_n X dX3_checkNights_0 0 rfl rfl ?_
  refine g_iconst X (v := 1) dX3_checkNights_1 (by decide) ?_
  refine g_icmp_lt X 11 dX3_checkNights_2 (by decide) (fun c_1 => ?_) (fun c_1 => ?_)
  · skip
    exact g_throw X hE hl0 (names := ["java/lang/RuntimeException", "java/lang/Exception"]) (by decide +kernel) (by decide +kernel) kk_X3_75 ki_IAE kst_208 kh_IAE_79 kh_IAE_79g dX3_checkNights_11 dX3_checkNights_14 dX3_checkNights_15 dX3_checkNights_17 dX3_checkNights_20 hxt ⟨Nat.le_of_ble_eq_true rfl, Nat.le_of_ble_eq_true rfl, Nat.le_of_ble_eq_true rfl, Nat.le_of_ble_eq_true rfl⟩ hlk (⟨rfl, fun h => h.1 c_1⟩) (by omega) (by omega)
  · skip
    refine g_iload_n X dX3_checkNights_5 0 rfl rfl ?_
    refine g_bipush X (v := 60) dX3_checkNights_6 (by decide) ?_
    refine g_icmp_le X 21 dX3_checkNights_8 (by decide) (fun c_2 => ?_) (fun c_2 => ?_)
    · skip
      exact g_xvret X hr hlk (by omega) (by omega) dX3_checkNights_21 (⟨rfl, c_1, c_2⟩)
    · skip
      exact g_throw X hE hl0 (names := ["java/lang/RuntimeException", "java/lang/Exception"]) (by decide +kernel) (by decide +kernel) kk_X3_75 ki_IAE kst_208 kh_IAE_79 kh_IAE_79g dX3_checkNights_11 dX3_checkNights_14 dX3_checkNights_15 dX3_checkNights_17 dX3_checkNights_20 hxt ⟨Nat.le_of_ble_eq_true rfl, Nat.le_of_ble_eq_true rfl, Nat.le_of_ble_eq_true rfl, Nat.le_of_ble_eq_true rfl⟩ hlk (⟨rfl, fun h => c_2 h.2⟩) (by omega) (by omega)

set_option maxHeartbeats 1000000 in
set_option maxRecDepth 100000 in
theorem c_X3_payNow (l : Launch) (D : va_G) (cy : Nat → ClassId) (ad : Nat → Nat) (ρ : Nat → Nat → Int32) (z t : Nat) (hs : z < 8) (ht : t < 6) (hpo : payOK ρ z t (sndC ρ 1 t (-1))) : gMI l yX3_payNow cX3_payNow 3 (some .int) { frames := 4, cells := 0, slots := 0, locals := 87 } D cy 48 ad (cC ad cy) [.ref (ad 0), .int (nI z), .int (nI t)] ρ (fun r ρ1 => r = pyN ρ z t ∧ ρ1 = ρ) 0 0 := by
  refine gMI_of (ls := [(0, .ref (ad 0)), (1, .int (nI z)), (2, .int (nI t))]) RX3 rfl (by decide +kernel) (Nat.le_of_ble_eq_true rfl) rfl ?_
  intro p e s m args below meth c A X hr hlk hnm
  refine g_aload_n X dX3_payNow_0 0 rfl rfl ?_
  refine g_getr X 0 (by omega) 3 (by decide) ku_X3 kv_X3 kf_X3_28 rfl lC_o_streets dX3_payNow_1 ?_
  refine g_iload_n X dX3_payNow_4 1 rfl rfl ?_
  refine g_aaldN X 12 z 3 (by omega) lC_streets rfl (by omega) (by decide) dX3_payNow_5 ?_
  refine g_iload_n X dX3_payNow_6 2 rfl rfl ?_
  refine g_aload_n X dX3_payNow_7 0 rfl rfl ?_
  refine g_getr X 0 (by omega) 2 (by decide) ku_X3 kv_X3 kf_X3_21 rfl lC_o_tunes dX3_payNow_8 ?_
  refine g_iload_n X dX3_payNow_11 2 rfl rfl ?_
  refine g_aaldN X 11 t 2 (by omega) lC_tunes rfl (by omega) (by decide) dX3_payNow_12 ?_
  refine g_aload_n X dX3_payNow_13 0 rfl rfl ?_
  refine g_getr X 0 (by omega) 0 (by decide) ku_X3 kv_X3 kf_X3_10 rfl lC_o_pipes dX3_payNow_14 ?_
  refine g_mcallVi X (14 + 3 * t) (c_X2_soundOf l D cy ad ρ t 1 (by omega) (Or.inl rfl)) kl_X3_156 ⟨rfl, rfl, Nat.le_of_ble_eq_true rfl, Nat.le_of_ble_eq_true rfl⟩ (by omega) (lC_T (by omega)) kv_X2 rfl rfl (Nat.le_of_ble_eq_true rfl) dX3_payNow_17 ⟨Nat.le_of_ble_eq_true rfl, Nat.le_of_ble_eq_true rfl⟩ (fun r_2 ρ_1 h_3 => ?_)
  obtain ⟨er_2, e9⟩ := h_3
  rw [e9, er_2]
  clear e9
  refine g_mcallVi X (32 + 2 * z) (c_X1_payFor l D cy ad ρ z t _ (by omega) (by omega) hpo) kl_X3_215 ⟨rfl, rfl, Nat.le_of_ble_eq_true rfl, Nat.le_of_ble_eq_true rfl⟩ (by omega) (lC_S (by omega)) kv_X1 rfl rfl (Nat.le_of_ble_eq_true rfl) dX3_payNow_20 ⟨Nat.le_of_ble_eq_true rfl, Nat.le_of_ble_eq_true rfl⟩ (fun r_5 ρ_4 h_6 => ?_)
  obtain ⟨er_5, e9⟩ := h_6
  rw [e9, er_5]
  clear e9
  exact g_iret X hr hlk (by omega) (by omega) dX3_payNow_23 (⟨rfl, rfl⟩)

set_option maxHeartbeats 1000000 in
set_option maxRecDepth 100000 in
theorem c_X3_payFine (l : Launch) (D : va_G) (cy : Nat → ClassId) (ad : Nat → Nat) (ρ : Nat → Nat → Int32)  : gMI l yX3_payFine cX3_payFine 2 (some .int) { frames := 1, cells := 0, slots := 0, locals := 21 } D cy 48 ad (cC ad cy) [.ref (ad 0)] ρ (fun r ρ1 => r = mnI 10 (ρ 0 8) ∧ ρ1 = finR ρ) 0 0 := by
  refine gMI_of (ls := [(0, .ref (ad 0))]) RX3 rfl (by decide +kernel) (Nat.le_of_ble_eq_true rfl) rfl ?_
  intro p e s m args below meth c A X hr hlk hnm
  refine g_bipush X (v := 10) dX3_payFine_0 (by decide) ?_
  refine g_aload_n X dX3_payFine_2 0 rfl rfl ?_
  refine g_geti X 0 (by omega) 8 (by decide) ku_X3 kv_X3 kf_X3_37 rfl lC_o_coins dX3_payFine_3 ?_
  refine g_mmin X km_X3_218 kt_mmin ki_math kc_mmin ⟨Nat.le_of_ble_eq_true rfl, Nat.le_of_ble_eq_true rfl, by omega, by omega⟩ dX3_payFine_6 ?_
  refine g_istore_n X [(1, .int _), (0, .ref _)] dX3_payFine_9 rfl (by decide) rfl ?_
  refine g_aload_n X dX3_payFine_10 1 rfl rfl ?_
  refine g_dup X dX3_payFine_11 rfl ?_
  refine g_geti X 0 (by omega) 8 (by decide) ku_X3 kv_X3 kf_X3_37 rfl lC_o_coins dX3_payFine_12 ?_
  rw [show ρ 0 8 = ρ 0 8 from rfl]
  refine g_iload_n X dX3_payFine_15 0 rfl rfl ?_
  refine g_isub X dX3_payFine_16 ?_
  refine g_puti X 0 (by omega) 8 (by decide) ku_X3 kv_X3 kf_X3_37 rfl tyX3 tyX3_ok nmX3 rfl (by decide +kernel) lC_o_coins dX3_payFine_17 (fun ρ_1 eρ_1 => ?_)
  refine g_aload_n X dX3_payFine_20 1 rfl rfl ?_
  refine g_dup X dX3_payFine_21 rfl ?_
  refine g_geti X 0 (by omega) 9 (by decide) ku_X3 kv_X3 kf_X3_221 rfl lC_o_fines dX3_payFine_22 ?_
  rw [show ρ_1 0 9 = ρ 0 9 by subst_vars; rw [up2_j (by decide)]]
  refine g_iload_n X dX3_payFine_25 0 rfl rfl ?_
  refine g_iadd X dX3_payFine_26 ?_
  refine g_puti X 0 (by omega) 9 (by decide) ku_X3 kv_X3 kf_X3_221 rfl tyX3 tyX3_ok nmX3 rfl (by decide +kernel) lC_o_fines dX3_payFine_27 (fun ρ_2 eρ_2 => ?_)
  refine g_iload_n X dX3_payFine_30 0 rfl rfl ?_
  exact g_iret X hr hlk (by omega) (by omega) dX3_payFine_31 (by subst_vars; exact ⟨rfl, rfl⟩)

set_option maxHeartbeats 1000000 in
set_option maxRecDepth 100000 in
theorem c_X3_passNights (l : Launch) (D : va_G) (cy : Nat → ClassId) (ad : Nat → Nat) (ρ : Nat → Nat → Int32) (b n d : Nat) (hb : isP b) (hd : ρ 0 7 = nI d) (hdn : d + n < 2 ^ 31) : gMI l yX3_passNights cX3_passNights 5 (some .int) { frames := 3, cells := 0, slots := 0, locals := 66 } D cy 48 ad (cC ad cy) [.ref (ad 0), .ref (ad b), .int (nI n)] ρ (fun r ρ1 => r = csF ρ b d n ∧ ρ1 = nsR ρ b d n) 0 0 := by
  refine gMI_of (ls := [(0, .ref (ad 0)), (1, .ref (ad b)), (2, .int (nI n))]) RX3 rfl (by decide +kernel) (Nat.le_of_ble_eq_true rfl) rfl ?_
  intro p e s m args below meth c A X hr hlk hnm
  have hb9 := isP_lt hb
  have hb6 : b ≤ 6 := by rcases hb with rfl | rfl <;> decide
  refine g_iconst X (v := 0) dX3_passNights_0 (by decide) ?_
  refine g_istore_n X [(3, .int _), (0, .ref _), (1, .ref _), (2, .int _)] dX3_passNights_1 rfl (by decide) rfl ?_
  refine g_iconst X (v := 0) dX3_passNights_2 (by decide) ?_
  refine g_istore X [(4, .int _), (3, .int _), (0, .ref _), (1, .ref _), (2, .int _)] dX3_passNights_3 (by decide) rfl ?_
  refine g_ls (ls' := [(0, .ref _), (1, .ref _), (2, .int _), (3, .int _), (4, .int _)]) [2, 3, 4, 1, 0] rfl ?_
  refine g_loop (fun _ => True) (fun i => nsR ρ b d i) (fun i => [(0, .ref (ad 0)), (1, .ref (ad b)), (2, .int (nI n)), (3, .int (csF ρ b d i)), (4, .int (nI i))]) (fun _ => 0) (fun _ => 0) n 0 trivial (by omega) rfl rfl rfl rfl (fun i h0i hi hIi ihi => ?_)
  obtain ⟨ρa, eρa⟩ : ∃ ρz, ρz = nsR ρ b d i := ⟨_, rfl⟩
  rw [← eρa]
  have hda : ρa 0 7 = nI d := by rw [eρa, nsR_out (k := 0) (by omega)]; exact hd
  have hdm : ∀ j, ρa 13 j = ρ 13 j := fun j => by rw [eρa, nsR_out (k := 13) (by omega)]
  refine g_iload X dX3_passNights_5 4 rfl ?_
  refine g_iload_n X dX3_passNights_7 2 rfl rfl ?_
  refine g_icmp_geN X i n 39 (by omega) (by omega) dX3_passNights_8 (by decide) (fun c_1 => ?_) (fun c_1 => ?_)
  · skip
    refine g_iload_n X dX3_passNights_39 3 rfl rfl ?_
    exact g_iret X hr hlk (by omega) (by omega) dX3_passNights_40 (by subst_vars; rw [show i = n by omega]; exact ⟨rfl, rfl⟩)
  · skip
    refine g_iload_n X dX3_passNights_11 3 rfl rfl ?_
    refine g_aload_n X dX3_passNights_12 1 rfl rfl ?_
    refine g_aload_n X dX3_passNights_13 0 rfl rfl ?_
    refine g_getr X 0 (by omega) 4 (by decide) ku_X3 kv_X3 kf_X3_33 rfl lC_o_damp dX3_passNights_14 ?_
    refine g_aload_n X dX3_passNights_17 0 rfl rfl ?_
    refine g_geti X 0 (by omega) 7 (by decide) ku_X3 kv_X3 kf_X3_103 rfl lC_o_day dX3_passNights_18 ?_
    rw [hda]
    refine g_iload X dX3_passNights_21 4 rfl ?_
    refine g_iadd X dX3_passNights_23 ?_
    rw [nI_add]
    refine g_mcallSi X (c_X3_weekdayOf l D cy ad ρa (d + i) (by omega)) kl_X3_106 ⟨rfl, rfl, Nat.le_of_ble_eq_true rfl, Nat.le_of_ble_eq_true rfl⟩ rfl rfl (Nat.le_of_ble_eq_true rfl) dX3_passNights_24 ⟨Nat.le_of_ble_eq_true rfl, Nat.le_of_ble_eq_true rfl⟩ (fun r_3 ρ_2 h_4 => ?_)
    obtain ⟨er_3, e9⟩ := h_4
    rw [e9, er_3]
    clear e9
    refine g_ialdN X 13 ((d + i) % 7) (by omega) lC_damp (by omega) (by decide) dX3_passNights_27 ?_
    rw [hdm]
    refine g_mcallVi X b (c_X0_passNight l D cy ad ρa b _ hb) kl_X3_224 ⟨rfl, rfl, Nat.le_of_ble_eq_true rfl, Nat.le_of_ble_eq_true rfl⟩ (by omega) (lC_P hb) kv_X0 rfl rfl (Nat.le_of_ble_eq_true rfl) dX3_passNights_28 ⟨Nat.le_of_ble_eq_true rfl, Nat.le_of_ble_eq_true rfl⟩ (fun r_6 ρ_5 h_7 => ?_)
    obtain ⟨er_6, eρ_5⟩ := h_7
    refine g_iadd X dX3_passNights_31 ?_
    refine g_istore_n X [(3, .int _), (0, .ref _), (1, .ref _), (2, .int _), (4, .int _)] dX3_passNights_32 rfl (by decide) rfl ?_
    refine g_iincN X i 4 [(4, .int _), (3, .int _), (0, .ref _), (1, .ref _), (2, .int _)] 4 dX3_passNights_33 rfl (by decide) rfl ?_
    refine g_goto X 5 dX3_passNights_36 (by decide) ?_
    refine g_ls (ls' := [(0, .ref _), (1, .ref _), (2, .int _), (3, .int _), (4, .int _)]) [2, 3, 4, 1, 0] rfl ?_
    exact g_eqv (ihi (by omega) trivial) (by subst_vars; rfl) (by subst_vars; rfl) rfl rfl

set_option maxHeartbeats 1000000 in
set_option maxRecDepth 100000 in
theorem c_X3_countNow (l : Launch) (D : va_G) (cy : Nat → ClassId) (ad : Nat → Nat) (ρ : Nat → Nat → Int32) (w d : Nat) (hw : w < 9) (hd : ρ 0 7 = nI d) (hd31 : d < 2 ^ 31) : gMI l yX3_countNow cX3_countNow 2 (some .int) { frames := 3, cells := 0, slots := 0, locals := 64 } D cy 48 ad (cC ad cy) [.ref (ad 0), .int (nI w)] ρ (fun r ρ1 => r = countF ρ w ∧ ρ1 = ρ) 0 0 := by
  refine gMI_of (ls := [(0, .ref (ad 0)), (1, .int (nI w))]) RX3 rfl (by decide +kernel) (Nat.le_of_ble_eq_true rfl) rfl ?_
  intro p e s m args below meth c A X hr hlk hnm
  refine g_iload_n X dX3_countNow_0 1 rfl rfl ?_
  rcases (show w = 0 ∨ w = 1 ∨ w = 2 ∨ w = 3 ∨ w = 4 ∨ w = 5 ∨ w = 6 ∨ w = 7 ∨ w = 8 by omega) with rfl | rfl | rfl | rfl | rfl | rfl | rfl | rfl | rfl
  · skip
    refine g_tableIn X 52 dX3_countNow_1 (by decide) (by decide) rfl (by decide) ?_
    refine g_aload_n X dX3_countNow_52 0 rfl rfl ?_
    refine g_geti X 0 (by omega) 7 (by decide) ku_X3 kv_X3 kf_X3_103 rfl lC_o_day dX3_countNow_53 ?_
    exact g_iret X hr hlk (by omega) (by omega) dX3_countNow_56 (⟨rfl, rfl⟩)
  · skip
    refine g_tableIn X 57 dX3_countNow_1 (by decide) (by decide) rfl (by decide) ?_
    refine g_aload_n X dX3_countNow_57 0 rfl rfl ?_
    refine g_geti X 0 (by omega) 7 (by decide) ku_X3 kv_X3 kf_X3_103 rfl lC_o_day dX3_countNow_58 ?_
    rw [hd]
    refine g_mcallSi X (c_X3_weekdayOf l D cy ad ρ d (by omega)) kl_X3_106 ⟨rfl, rfl, Nat.le_of_ble_eq_true rfl, Nat.le_of_ble_eq_true rfl⟩ rfl rfl (Nat.le_of_ble_eq_true rfl) dX3_countNow_61 ⟨Nat.le_of_ble_eq_true rfl, Nat.le_of_ble_eq_true rfl⟩ (fun r_2 ρ_1 h_3 => ?_)
    obtain ⟨er_2, e9⟩ := h_3
    rw [e9, er_2]
    clear e9
    exact g_iret X hr hlk (by omega) (by omega) dX3_countNow_64 (⟨by show _ = wdF ρ; unfold wdF; rw [hd, nI_clamp (by omega)], rfl⟩)
  · skip
    refine g_tableIn X 65 dX3_countNow_1 (by decide) (by decide) rfl (by decide) ?_
    refine g_aload_n X dX3_countNow_65 0 rfl rfl ?_
    refine g_geti X 0 (by omega) 8 (by decide) ku_X3 kv_X3 kf_X3_37 rfl lC_o_coins dX3_countNow_66 ?_
    exact g_iret X hr hlk (by omega) (by omega) dX3_countNow_69 (⟨rfl, rfl⟩)
  · skip
    refine g_tableIn X 70 dX3_countNow_1 (by decide) (by decide) rfl (by decide) ?_
    refine g_aload_n X dX3_countNow_70 0 rfl rfl ?_
    refine g_geti X 0 (by omega) 5 (by decide) ku_X3 kv_X3 kf_X3_41 rfl lC_o_tuneCount dX3_countNow_71 ?_
    exact g_iret X hr hlk (by omega) (by omega) dX3_countNow_74 (⟨rfl, rfl⟩)
  · skip
    refine g_tableIn X 75 dX3_countNow_1 (by decide) (by decide) rfl (by decide) ?_
    refine g_aload_n X dX3_countNow_75 0 rfl rfl ?_
    refine g_geti X 0 (by omega) 6 (by decide) ku_X3 kv_X3 kf_X3_83 rfl lC_o_streetCount dX3_countNow_76 ?_
    exact g_iret X hr hlk (by omega) (by omega) dX3_countNow_79 (⟨rfl, rfl⟩)
  · skip
    refine g_tableIn X 85 dX3_countNow_1 (by decide) (by decide) rfl (by decide) ?_
    refine g_aload_n X dX3_countNow_85 0 rfl rfl ?_
    refine g_getr X 0 (by omega) 0 (by decide) ku_X3 kv_X3 kf_X3_10 rfl lC_o_pipes dX3_countNow_86 ?_
    refine g_iload_n X dX3_countNow_89 1 rfl rfl ?_
    refine g_mcallVi X 1 (c_X0_sumUp l D cy ad ρ 1 5 (Or.inl rfl) (by omega)) kl_X3_184 ⟨rfl, rfl, Nat.le_of_ble_eq_true rfl, Nat.le_of_ble_eq_true rfl⟩ (by omega) (lC_P (Or.inl rfl)) kv_X0 rfl rfl (Nat.le_of_ble_eq_true rfl) dX3_countNow_90 ⟨Nat.le_of_ble_eq_true rfl, Nat.le_of_ble_eq_true rfl⟩ (fun r_5 ρ_4 h_6 => ?_)
    obtain ⟨er_5, e9⟩ := h_6
    rw [e9, er_5]
    clear e9
    exact g_iret X hr hlk (by omega) (by omega) dX3_countNow_93 (⟨rfl, rfl⟩)
  · skip
    refine g_tableIn X 85 dX3_countNow_1 (by decide) (by decide) rfl (by decide) ?_
    refine g_aload_n X dX3_countNow_85 0 rfl rfl ?_
    refine g_getr X 0 (by omega) 0 (by decide) ku_X3 kv_X3 kf_X3_10 rfl lC_o_pipes dX3_countNow_86 ?_
    refine g_iload_n X dX3_countNow_89 1 rfl rfl ?_
    refine g_mcallVi X 1 (c_X0_sumUp l D cy ad ρ 1 6 (Or.inl rfl) (by omega)) kl_X3_184 ⟨rfl, rfl, Nat.le_of_ble_eq_true rfl, Nat.le_of_ble_eq_true rfl⟩ (by omega) (lC_P (Or.inl rfl)) kv_X0 rfl rfl (Nat.le_of_ble_eq_true rfl) dX3_countNow_90 ⟨Nat.le_of_ble_eq_true rfl, Nat.le_of_ble_eq_true rfl⟩ (fun r_8 ρ_7 h_9 => ?_)
    obtain ⟨er_8, e9⟩ := h_9
    rw [e9, er_8]
    clear e9
    exact g_iret X hr hlk (by omega) (by omega) dX3_countNow_93 (⟨rfl, rfl⟩)
  · skip
    refine g_tableIn X 85 dX3_countNow_1 (by decide) (by decide) rfl (by decide) ?_
    refine g_aload_n X dX3_countNow_85 0 rfl rfl ?_
    refine g_getr X 0 (by omega) 0 (by decide) ku_X3 kv_X3 kf_X3_10 rfl lC_o_pipes dX3_countNow_86 ?_
    refine g_iload_n X dX3_countNow_89 1 rfl rfl ?_
    refine g_mcallVi X 1 (c_X0_sumUp l D cy ad ρ 1 7 (Or.inl rfl) (by omega)) kl_X3_184 ⟨rfl, rfl, Nat.le_of_ble_eq_true rfl, Nat.le_of_ble_eq_true rfl⟩ (by omega) (lC_P (Or.inl rfl)) kv_X0 rfl rfl (Nat.le_of_ble_eq_true rfl) dX3_countNow_90 ⟨Nat.le_of_ble_eq_true rfl, Nat.le_of_ble_eq_true rfl⟩ (fun r_11 ρ_10 h_12 => ?_)
    obtain ⟨er_11, e9⟩ := h_12
    rw [e9, er_11]
    clear e9
    exact g_iret X hr hlk (by omega) (by omega) dX3_countNow_93 (⟨rfl, rfl⟩)
  · skip
    refine g_tableIn X 80 dX3_countNow_1 (by decide) (by decide) rfl (by decide) ?_
    refine g_aload_n X dX3_countNow_80 0 rfl rfl ?_
    refine g_geti X 0 (by omega) 9 (by decide) ku_X3 kv_X3 kf_X3_221 rfl lC_o_fines dX3_countNow_81 ?_
    exact g_iret X hr hlk (by omega) (by omega) dX3_countNow_84 (⟨rfl, rfl⟩)

set_option maxHeartbeats 1000000 in
set_option maxRecDepth 100000 in
theorem c_X3_mix (l : Launch) (D : va_G) (cy : Nat → ClassId) (ad : Nat → Nat) (ρ : Nat → Nat → Int32) (u : Int64) (x : Int32) : gML l yX3_mix cX3_mix 3 (some .long) { frames := 0, cells := 0, slots := 0, locals := 0 } D cy 48 ad (cC ad cy) [.long u, .int x] ρ (fun r ρ1 => r = mixF u x ∧ ρ1 = ρ) 0 0 := by
  refine gML_of (ls := [(0, .long u), (2, .int x)]) RX3 rfl (by decide +kernel) (Nat.le_of_ble_eq_true rfl) rfl ?_
  intro p e s m args below meth c A X hr hlk hnm
  refine g_lload_n X dX3_mix_0 0 rfl rfl ?_
  refine g_ldc2 X kL_X3_227 dX3_mix_1 ?_
  refine g_lmul X dX3_mix_4 ?_
  refine g_iload_n X dX3_mix_5 1 rfl rfl ?_
  refine g_i2l X dX3_mix_6 ?_
  refine g_ladd X dX3_mix_7 ?_
  exact g_lret X hr hlk (by omega) (by omega) dX3_mix_8 (⟨rfl, rfl⟩)

set_option maxHeartbeats 1000000 in
set_option maxRecDepth 100000 in
theorem c_X3_mixTune (l : Launch) (D : va_G) (cy : Nat → ClassId) (ad : Nat → Nat) (ρ : Nat → Nat → Int32) (t L : Nat) (u : Int64) (ht : t < 6) (hL : ρ (14 + 3 * t) 2 = nI L) (hL16 : L ≤ 16) : gML l yX3_mixTune cX3_mixTune 7 (some .long) { frames := 4, cells := 0, slots := 0, locals := 87 } D cy 48 ad (cC ad cy) [.ref (ad 0), .long u, .ref (ad (14 + 3 * t))] ρ (fun r ρ1 => r = mtF ρ t u ∧ ρ1 = ρ) 0 0 := by
  refine gML_of (ls := [(0, .ref (ad 0)), (1, .long u), (3, .ref (ad (14 + 3 * t)))]) RX3 rfl (by decide +kernel) (Nat.le_of_ble_eq_true rfl) rfl ?_
  intro p e s m args below meth c A X hr hlk hnm
  refine g_lload_n X dX3_mixTune_0 1 rfl rfl ?_
  refine g_aload_n X dX3_mixTune_1 2 rfl rfl ?_
  refine g_geti X (14 + 3 * t) (by omega) 2 (by decide) ku_X2 kv_X2 kf_X3_58 rfl (lC_f_length ht) dX3_mixTune_2 ?_
  rw [hL]
  refine g_mcallSl X (c_X3_mix l D cy ad ρ _ _) kl_X3_189 ⟨rfl, rfl, Nat.le_of_ble_eq_true rfl, Nat.le_of_ble_eq_true rfl⟩ rfl rfl (Nat.le_of_ble_eq_true rfl) dX3_mixTune_5 ⟨Nat.le_of_ble_eq_true rfl, Nat.le_of_ble_eq_true rfl⟩ (fun r_2 ρ_1 h_3 => ?_)
  obtain ⟨er_2, e9⟩ := h_3
  rw [e9, er_2]
  clear e9
  refine g_lstore X [(4, .long _), (0, .ref _), (1, .long _), (3, .ref _)] dX3_mixTune_8 (by decide) rfl ?_
  refine g_iconst X (v := 0) dX3_mixTune_10 (by decide) ?_
  refine g_istore X [(6, .int _), (4, .long _), (0, .ref _), (1, .long _), (3, .ref _)] dX3_mixTune_11 (by decide) rfl ?_
  refine g_ls (ls' := [(0, .ref _), (1, .long _), (3, .ref _), (4, .long _), (6, .int _)]) [2, 3, 4, 1, 0] rfl ?_
  refine g_loop (fun _ => True) (fun _ => ρ) (fun i => [(0, .ref (ad 0)), (1, .long u), (3, .ref (ad (14 + 3 * t))), (4, .long (mxs (fun k => ρ (15 + 3 * t) k) i (mixF u (nI L)))), (6, .int (nI i))]) (fun _ => (0 + 0)) (fun _ => (0 + 0)) L 0 trivial (by omega) rfl rfl rfl rfl (fun i h0i hi hIi ihi => ?_)
  refine g_iload X dX3_mixTune_13 4 rfl ?_
  refine g_aload_n X dX3_mixTune_15 2 rfl rfl ?_
  refine g_geti X (14 + 3 * t) (by omega) 2 (by decide) ku_X2 kv_X2 kf_X3_58 rfl (lC_f_length ht) dX3_mixTune_16 ?_
  rw [hL]
  refine g_icmp_geN X i L 49 (by omega) (by omega) dX3_mixTune_19 (by decide) (fun c_4 => ?_) (fun c_4 => ?_)
  · skip
    refine g_lload X dX3_mixTune_49 3 rfl ?_
    refine g_aload_n X dX3_mixTune_51 2 rfl rfl ?_
    refine g_aload_n X dX3_mixTune_52 0 rfl rfl ?_
    refine g_getr X 0 (by omega) 0 (by decide) ku_X3 kv_X3 kf_X3_10 rfl lC_o_pipes dX3_mixTune_53 ?_
    refine g_mcallVi X (14 + 3 * t) (c_X2_soundOf l D cy ad ρ t 1 ht (Or.inl rfl)) kl_X3_156 ⟨rfl, rfl, Nat.le_of_ble_eq_true rfl, Nat.le_of_ble_eq_true rfl⟩ (by omega) (lC_T ht) kv_X2 rfl rfl (Nat.le_of_ble_eq_true rfl) dX3_mixTune_56 ⟨Nat.le_of_ble_eq_true rfl, Nat.le_of_ble_eq_true rfl⟩ (fun r_6 ρ_5 h_7 => ?_)
    obtain ⟨er_6, e9⟩ := h_7
    rw [e9, er_6]
    clear e9
    refine g_mcallSl X (c_X3_mix l D cy ad ρ _ _) kl_X3_189 ⟨rfl, rfl, Nat.le_of_ble_eq_true rfl, Nat.le_of_ble_eq_true rfl⟩ rfl rfl (Nat.le_of_ble_eq_true rfl) dX3_mixTune_59 ⟨Nat.le_of_ble_eq_true rfl, Nat.le_of_ble_eq_true rfl⟩ (fun r_9 ρ_8 h_10 => ?_)
    obtain ⟨er_9, e9⟩ := h_10
    rw [e9, er_9]
    clear e9
    exact g_lret X hr hlk (by omega) (by omega) dX3_mixTune_62 (by refine ⟨?_, rfl⟩; unfold mtF; rw [hL, nI_clamp (by omega), show i = L by omega])
  · skip
    refine g_iload X dX3_mixTune_22 4 rfl ?_
    refine g_bipush X (v := 16) dX3_mixTune_24 (by decide) ?_
    refine g_icmp_geN X i 16 49 (by omega) (by omega) dX3_mixTune_26 (by decide) (fun c_11 => ?_) (fun c_11 => ?_)
    · exfalso; omega
    · skip
      refine g_lload X dX3_mixTune_29 3 rfl ?_
      refine g_aload_n X dX3_mixTune_31 2 rfl rfl ?_
      refine g_getr X (14 + 3 * t) (by omega) 0 (by decide) ku_X2 kv_X2 kf_X3_72 rfl (lC_f_notes ht) dX3_mixTune_32 ?_
      refine g_iload X dX3_mixTune_35 4 rfl ?_
      refine g_ialdN X (15 + 3 * t) i (by omega) (lC_notes ht) (by omega) (by decide) dX3_mixTune_37 ?_
      refine g_mcallSl X (c_X3_mix l D cy ad ρ _ _) kl_X3_189 ⟨rfl, rfl, Nat.le_of_ble_eq_true rfl, Nat.le_of_ble_eq_true rfl⟩ rfl rfl (Nat.le_of_ble_eq_true rfl) dX3_mixTune_38 ⟨Nat.le_of_ble_eq_true rfl, Nat.le_of_ble_eq_true rfl⟩ (fun r_13 ρ_12 h_14 => ?_)
      obtain ⟨er_13, e9⟩ := h_14
      rw [e9, er_13]
      clear e9
      refine g_lstore X [(4, .long _), (0, .ref _), (1, .long _), (3, .ref _), (6, .int _)] dX3_mixTune_41 (by decide) rfl ?_
      refine g_iincN X i 6 [(6, .int _), (4, .long _), (0, .ref _), (1, .long _), (3, .ref _)] 4 dX3_mixTune_43 rfl (by decide) rfl ?_
      refine g_goto X 13 dX3_mixTune_46 (by decide) ?_
      refine g_ls (ls' := [(0, .ref _), (1, .long _), (3, .ref _), (4, .long _), (6, .int _)]) [2, 3, 4, 1, 0] rfl ?_
      exact g_eqv (ihi (by omega) trivial) (rfl) (rfl) rfl rfl

set_option maxHeartbeats 1000000 in
set_option maxRecDepth 100000 in
theorem c_X3_mixStreet (l : Launch) (D : va_G) (cy : Nat → ClassId) (ad : Nat → Nat) (ρ : Nat → Nat → Int32) (z T d : Nat) (u : Int64) (hs : z < 8) (hT : ρ 0 5 = nI T) (hT6 : T ≤ 6) (hd : ρ 0 7 = nI d) (hd31 : d < 2 ^ 31) (hpo : ∀ t, t < 6 → payOK ρ z t (sndC ρ 1 t (-1))) : gML l yX3_mixStreet cX3_mixStreet 7 (some .long) { frames := 5, cells := 0, slots := 0, locals := 109 } D cy 48 ad (cC ad cy) [.ref (ad 0), .long u, .int (nI z)] ρ (fun r ρ1 => r = msF ρ z u ∧ ρ1 = ρ) 0 0 := by
  refine gML_of (ls := [(0, .ref (ad 0)), (1, .long u), (3, .int (nI z))]) RX3 rfl (by decide +kernel) (Nat.le_of_ble_eq_true rfl) rfl ?_
  intro p e s m args below meth c A X hr hlk hnm
  have hwd : wdF ρ = nI (d % 7) := by unfold wdF; rw [hd, nI_clamp (by omega)]
  refine g_lload_n X dX3_mixStreet_0 1 rfl rfl ?_
  refine g_lstore X [(4, .long _), (0, .ref _), (1, .long _), (3, .int _)] dX3_mixStreet_1 (by decide) rfl ?_
  refine g_iconst X (v := 0) dX3_mixStreet_3 (by decide) ?_
  refine g_istore X [(6, .int _), (4, .long _), (0, .ref _), (1, .long _), (3, .int _)] dX3_mixStreet_4 (by decide) rfl ?_
  refine g_ls (ls' := [(0, .ref _), (1, .long _), (3, .int _), (4, .long _), (6, .int _)]) [2, 3, 4, 1, 0] rfl ?_
  refine g_loop (fun _ => True) (fun _ => ρ) (fun i => [(0, .ref (ad 0)), (1, .long u), (3, .int (nI z)), (4, .long (mxs (fun w => toldF ρ z w (wdF ρ)) i u)), (6, .int (nI i))]) (fun _ => 0) (fun _ => 0) 5 0 trivial (by omega) rfl rfl rfl rfl (fun i h0i hi hIi ihi => ?_)
  refine g_iload X dX3_mixStreet_6 4 rfl ?_
  refine g_iconst X (v := 5) dX3_mixStreet_8 (by decide) ?_
  refine g_icmp_geN X i 5 43 (by omega) (by omega) dX3_mixStreet_9 (by decide) (fun c_1 => ?_) (fun c_1 => ?_)
  · skip
    refine g_iconst X (v := 0) dX3_mixStreet_43 (by decide) ?_
    refine g_istore X [(6, .int _), (0, .ref _), (1, .long _), (3, .int _), (4, .long _)] dX3_mixStreet_44 (by decide) rfl ?_
    have h5 : i = 5 := by omega
    subst h5
    refine g_ls (ls' := [(0, .ref _), (1, .long _), (3, .int _), (4, .long _), (6, .int _)]) [1, 2, 3, 4, 0] rfl ?_
    refine g_loop (fun _ => True) (fun _ => ρ) (fun j => [(0, .ref (ad 0)), (1, .long u), (3, .int (nI z)), (4, .long (mxs (fun t => pyN ρ z t) j (mxs (fun w => toldF ρ z w (wdF ρ)) 5 u))), (6, .int (nI j))]) (fun _ => (0)) (fun _ => (0)) T 0 trivial (by omega) rfl rfl rfl rfl (fun j h0j hj hIj ihj => ?_)
    refine g_iload X dX3_mixStreet_46 4 rfl ?_
    refine g_aload_n X dX3_mixStreet_48 0 rfl rfl ?_
    refine g_geti X 0 (by omega) 5 (by decide) ku_X3 kv_X3 kf_X3_41 rfl lC_o_tuneCount dX3_mixStreet_49 ?_
    rw [show ρ 0 5 = nI T from hT]
    refine g_icmp_geN X j T 75 (by omega) (by omega) dX3_mixStreet_52 (by decide) (fun c_2 => ?_) (fun c_2 => ?_)
    · skip
      refine g_lload X dX3_mixStreet_75 3 rfl ?_
      exact g_lret X hr hlk (by omega) (by omega) dX3_mixStreet_77 (by refine ⟨?_, rfl⟩; unfold msF; rw [hT, nI_clamp (by omega), show j = T by omega])
    · skip
      refine g_lload X dX3_mixStreet_55 3 rfl ?_
      refine g_aload_n X dX3_mixStreet_57 0 rfl rfl ?_
      refine g_iload_n X dX3_mixStreet_58 2 rfl rfl ?_
      refine g_iload X dX3_mixStreet_59 4 rfl ?_
      refine g_mcallVi X 0 (c_X3_payNow l D cy ad ρ z j (by omega) (by omega) (hpo j (by omega))) kl_X3_117 ⟨rfl, rfl, Nat.le_of_ble_eq_true rfl, Nat.le_of_ble_eq_true rfl⟩ (by omega) lC_O kv_X3 rfl rfl (Nat.le_of_ble_eq_true rfl) dX3_mixStreet_61 ⟨Nat.le_of_ble_eq_true rfl, Nat.le_of_ble_eq_true rfl⟩ (fun r_4 ρ_3 h_5 => ?_)
      obtain ⟨er_4, e9⟩ := h_5
      rw [e9, er_4]
      clear e9
      refine g_mcallSl X (c_X3_mix l D cy ad ρ _ _) kl_X3_189 ⟨rfl, rfl, Nat.le_of_ble_eq_true rfl, Nat.le_of_ble_eq_true rfl⟩ rfl rfl (Nat.le_of_ble_eq_true rfl) dX3_mixStreet_64 ⟨Nat.le_of_ble_eq_true rfl, Nat.le_of_ble_eq_true rfl⟩ (fun r_7 ρ_6 h_8 => ?_)
      obtain ⟨er_7, e9⟩ := h_8
      rw [e9, er_7]
      clear e9
      refine g_lstore X [(4, .long _), (0, .ref _), (1, .long _), (3, .int _), (6, .int _)] dX3_mixStreet_67 (by decide) rfl ?_
      refine g_iincN X j 6 [(6, .int _), (4, .long _), (0, .ref _), (1, .long _), (3, .int _)] 4 dX3_mixStreet_69 rfl (by decide) rfl ?_
      refine g_goto X 46 dX3_mixStreet_72 (by decide) ?_
      refine g_ls (ls' := [(0, .ref _), (1, .long _), (3, .int _), (4, .long _), (6, .int _)]) [2, 3, 4, 1, 0] rfl ?_
      exact g_eqv (ihj (by omega) trivial) (rfl) (rfl) rfl rfl
  · skip
    refine g_lload X dX3_mixStreet_12 3 rfl ?_
    refine g_aload_n X dX3_mixStreet_14 0 rfl rfl ?_
    refine g_getr X 0 (by omega) 3 (by decide) ku_X3 kv_X3 kf_X3_28 rfl lC_o_streets dX3_mixStreet_15 ?_
    refine g_iload_n X dX3_mixStreet_18 2 rfl rfl ?_
    refine g_aaldN X 12 z 3 (by omega) lC_streets rfl (by omega) (by decide) dX3_mixStreet_19 ?_
    refine g_iload X dX3_mixStreet_20 4 rfl ?_
    refine g_aload_n X dX3_mixStreet_22 0 rfl rfl ?_
    refine g_geti X 0 (by omega) 7 (by decide) ku_X3 kv_X3 kf_X3_103 rfl lC_o_day dX3_mixStreet_23 ?_
    rw [show ρ 0 7 = nI d from hd]
    refine g_mcallSi X (c_X3_weekdayOf l D cy ad ρ d (by omega)) kl_X3_106 ⟨rfl, rfl, Nat.le_of_ble_eq_true rfl, Nat.le_of_ble_eq_true rfl⟩ rfl rfl (Nat.le_of_ble_eq_true rfl) dX3_mixStreet_26 ⟨Nat.le_of_ble_eq_true rfl, Nat.le_of_ble_eq_true rfl⟩ (fun r_10 ρ_9 h_11 => ?_)
    obtain ⟨er_10, e9⟩ := h_11
    rw [e9, er_10]
    clear e9
    refine g_mcallVi X (32 + 2 * z) (c_X1_tell l D cy ad ρ z i _ (by omega) (by omega)) kl_X3_160 ⟨rfl, rfl, Nat.le_of_ble_eq_true rfl, Nat.le_of_ble_eq_true rfl⟩ (by omega) (lC_S (by omega)) kv_X1 rfl rfl (Nat.le_of_ble_eq_true rfl) dX3_mixStreet_29 ⟨Nat.le_of_ble_eq_true rfl, Nat.le_of_ble_eq_true rfl⟩ (fun r_13 ρ_12 h_14 => ?_)
    obtain ⟨er_13, e9⟩ := h_14
    rw [e9, er_13]
    clear e9
    refine g_mcallSl X (c_X3_mix l D cy ad ρ _ _) kl_X3_189 ⟨rfl, rfl, Nat.le_of_ble_eq_true rfl, Nat.le_of_ble_eq_true rfl⟩ rfl rfl (Nat.le_of_ble_eq_true rfl) dX3_mixStreet_32 ⟨Nat.le_of_ble_eq_true rfl, Nat.le_of_ble_eq_true rfl⟩ (fun r_16 ρ_15 h_17 => ?_)
    obtain ⟨er_16, e9⟩ := h_17
    rw [e9, er_16]
    clear e9
    refine g_lstore X [(4, .long _), (0, .ref _), (1, .long _), (3, .int _), (6, .int _)] dX3_mixStreet_35 (by decide) rfl ?_
    refine g_iincN X i 6 [(6, .int _), (4, .long _), (0, .ref _), (1, .long _), (3, .int _)] 4 dX3_mixStreet_37 rfl (by decide) rfl ?_
    refine g_goto X 6 dX3_mixStreet_40 (by decide) ?_
    refine g_ls (ls' := [(0, .ref _), (1, .long _), (3, .int _), (4, .long _), (6, .int _)]) [2, 3, 4, 1, 0] rfl ?_
    exact g_eqv (ihi (by omega) trivial) (by rw [← hwd]; rfl) (rfl) rfl rfl
end
section
set_option maxHeartbeats 1000000 in
set_option maxRecDepth 100000 in
theorem c_X3_barrel (l : Launch) (hl0 : l.stackTraces = false) (D : va_G) (cy : Nat → ClassId) (ad : Nat → Nat) (ρ : Nat → Nat → Int32) (N T S d : Nat) (hI : Inv ρ N T S d) : gXI l yX3_barrel cX3_barrel 1 (some .int) { frames := 6, cells := 3, slots := 18, locals := 90 } D cy 48 ad (cC ad cy) [.ref (ad 0)] ρ (fun r ρ1 => barF ρ = (0, r, ρ1)) (xq1 "java/lang/IllegalStateException" (barF ρ).1) 3 18 := by
  refine gXI_of (ls := [(0, .ref (ad 0))]) RX3 rfl (by decide +kernel) (Nat.le_of_ble_eq_true rfl) rfl ?_
  intro p e s m args below meth c A X hE hxt hr hlk
  obtain ⟨hT, hT6, hS, hS8, hd, hdN, hN, hTu, hSt, hPi, hZ⟩ := id hI
  have hwd : wdF ρ = nI (d % 7) := by unfold wdF; rw [hd, nI_clamp (by omega)]
  refine g_aload_n X dX3_barrel_0 0 rfl rfl ?_
  refine g_geti X 0 (by omega) 5 (by decide) ku_X3 kv_X3 kf_X3_41 rfl lC_o_tuneCount dX3_barrel_1 ?_
  rw [show ρ 0 5 = nI T from hT]
  refine g_bipush X (v := 6) dX3_barrel_4 (by decide) ?_
  refine g_icmp_ltN X T 6 19 (by omega) (by omega) dX3_barrel_6 (by decide) (fun c_1 => ?_) (fun c_1 => ?_)
  · skip
    refine g_aload_n X dX3_barrel_19 0 rfl rfl ?_
    refine g_dup X dX3_barrel_20 rfl ?_
    refine g_geti X 0 (by omega) 5 (by decide) ku_X3 kv_X3 kf_X3_41 rfl lC_o_tuneCount dX3_barrel_21 ?_
    rw [show ρ 0 5 = nI T from hT]
    refine g_dup_x1 X dX3_barrel_24 rfl rfl ?_
    refine g_iconst X (v := 1) dX3_barrel_25 (by decide) ?_
    refine g_iadd X dX3_barrel_26 ?_
    refine g_puti X 0 (by omega) 5 (by decide) ku_X3 kv_X3 kf_X3_41 rfl tyX3 tyX3_ok nmX3 rfl (by decide +kernel) lC_o_tuneCount dX3_barrel_27 (fun ρ_2 eρ_2 => ?_)
    exact g_xiret X hr hlk (by omega) (by omega) dX3_barrel_30 (by subst_vars; unfold barF; rw [if_neg (by rw [hT]; exact nI_ne (a := T) (b := 6) (by omega) (by omega) (by omega)), hT])
  · skip
    exact g_throw X hE hl0 (names := ["java/lang/RuntimeException", "java/lang/Exception"]) (by decide +kernel) (by decide +kernel) kk_X3_44 ki_ISE kst_46 kh_ISE_48 kh_ISE_48g dX3_barrel_9 dX3_barrel_12 dX3_barrel_13 dX3_barrel_15 dX3_barrel_18 hxt ⟨Nat.le_of_ble_eq_true rfl, Nat.le_of_ble_eq_true rfl, Nat.le_of_ble_eq_true rfl, Nat.le_of_ble_eq_true rfl⟩ hlk (⟨rfl, by unfold barF; rw [if_pos (by rw [hT, show T = 6 by omega]; rfl)]⟩) (by omega) (by omega)

set_option maxHeartbeats 1000000 in
set_option maxRecDepth 100000 in
theorem c_X3_pin (l : Launch) (hl0 : l.stackTraces = false) (D : va_G) (cy : Nat → ClassId) (ad : Nat → Nat) (ρ : Nat → Nat → Int32) (N T S d : Nat) (hI : Inv ρ N T S d) (x y : Int32) : gXI l yX3_pin cX3_pin 3 (some .int) { frames := 7, cells := 3, slots := 18, locals := 111 } D cy 48 ad (cC ad cy) [.ref (ad 0), .int x, .int y] ρ (fun r ρ1 => pinF ρ x y = (0, r, ρ1)) (xq2 "java/lang/IndexOutOfBoundsException" "java/lang/IllegalStateException" (pinF ρ x y).1) 3 18 := by
  refine gXI_of (ls := [(0, .ref (ad 0)), (1, .int x), (2, .int y)]) RX3 rfl (by decide +kernel) (Nat.le_of_ble_eq_true rfl) rfl ?_
  intro p e s m args below meth c A X hE hxt hr hlk
  obtain ⟨hT, hT6, hS, hS8, hd, hdN, hN, hTu, hSt, hPi, hZ⟩ := id hI
  have hwd : wdF ρ = nI (d % 7) := by unfold wdF; rw [hd, nI_clamp (by omega)]
  refine g_aload_n X dX3_pin_0 0 rfl rfl ?_
  refine g_iload_n X dX3_pin_1 1 rfl rfl ?_
  refine g_xcallVv X hE 0 (c_X3_checkTune l hl0 D cy ad ρ _) kl_X3_51 ⟨rfl, rfl, Nat.le_of_ble_eq_true rfl, Nat.le_of_ble_eq_true rfl⟩ (by omega) lC_O kv_X3 rfl rfl (Nat.le_of_ble_eq_true rfl) dX3_pin_2 ⟨Nat.le_of_ble_eq_true rfl, Nat.le_of_ble_eq_true rfl⟩ (g_out hxt hlk (fun E h => Or.inl ⟨h.1, by unfold pinF; rw [if_neg h.2]⟩) (by omega) (by omega)) (fun ρ_1 h_3 => ?_)
  obtain ⟨e9, ib9⟩ := h_3
  rw [e9]
  obtain ⟨t, ht, rfl⟩ := inb_N hT (by omega) ib9
  have ibt := ib9
  have ext : ix (nI t) = t := nI_clamp (by omega)
  refine g_iload_n X dX3_pin_5 2 rfl rfl ?_
  refine g_xcallSv X hE (c_X3_checkPipe l hl0 D cy ad ρ _) kl_X3_55 ⟨rfl, rfl, Nat.le_of_ble_eq_true rfl, Nat.le_of_ble_eq_true rfl⟩ rfl rfl (Nat.le_of_ble_eq_true rfl) dX3_pin_6 ⟨Nat.le_of_ble_eq_true rfl, Nat.le_of_ble_eq_true rfl⟩ (g_out hxt hlk (fun E h => Or.inl ⟨h.1, by unfold pinF; rw [if_pos ibt, if_neg h.2]⟩) (by omega) (by omega)) (fun ρ_4 h_6 => ?_)
  obtain ⟨e9, ib9⟩ := h_6
  rw [e9]
  obtain ⟨q, hq, rfl⟩ := inb_N (T := 12) rfl (by omega) ib9
  have ibq := ib9
  have exq : ix (nI q) = q := nI_clamp (by omega)
  obtain ⟨L, hL, hL16, hLn, hLc⟩ := hTu t (by omega)
  refine g_aload_n X dX3_pin_9 0 rfl rfl ?_
  refine g_getr X 0 (by omega) 2 (by decide) ku_X3 kv_X3 kf_X3_21 rfl lC_o_tunes dX3_pin_10 ?_
  refine g_iload_n X dX3_pin_13 1 rfl rfl ?_
  refine g_aaldN X 11 t 2 (by omega) lC_tunes rfl (by omega) (by decide) dX3_pin_14 ?_
  refine g_geti X (14 + 3 * t) (by omega) 2 (by decide) ku_X2 kv_X2 kf_X3_58 rfl (lC_f_length (by omega)) dX3_pin_15 ?_
  rw [hL]
  refine g_bipush X (v := 16) dX3_pin_18 (by decide) ?_
  refine g_icmp_ltN X L 16 33 (by omega) (by omega) dX3_pin_20 (by decide) (fun c_7 => ?_) (fun c_7 => ?_)
  · skip
    refine g_aload_n X dX3_pin_33 0 rfl rfl ?_
    refine g_getr X 0 (by omega) 2 (by decide) ku_X3 kv_X3 kf_X3_21 rfl lC_o_tunes dX3_pin_34 ?_
    refine g_iload_n X dX3_pin_37 1 rfl rfl ?_
    refine g_aaldN X 11 t 2 (by omega) lC_tunes rfl (by omega) (by decide) dX3_pin_38 ?_
    refine g_iload_n X dX3_pin_39 2 rfl rfl ?_
    refine g_mcallVi X (14 + 3 * t) (c_X2_append l D cy ad ρ t L q (by omega) hL (by omega) (by omega)) kl_X3_63 ⟨rfl, rfl, Nat.le_of_ble_eq_true rfl, Nat.le_of_ble_eq_true rfl⟩ (by omega) (lC_T (by omega)) kv_X2 rfl rfl (Nat.le_of_ble_eq_true rfl) dX3_pin_40 ⟨Nat.le_of_ble_eq_true rfl, Nat.le_of_ble_eq_true rfl⟩ (fun r_9 ρ_8 h_10 => ?_)
    obtain ⟨er_9, eρ_8⟩ := h_10
    exact g_xiret X hr hlk (by omega) (by omega) dX3_pin_43 (by subst_vars; unfold pinF; rw [if_pos ibt, if_pos ibq, if_neg (by rw [ext, hL]; exact nI_ne (a := L) (b := 16) (by omega) (by omega) (by omega)), ext, exq, hL, show ix (nI L) = L from nI_clamp (by omega), nI_1])
  · skip
    exact g_throw X hE hl0 (names := ["java/lang/RuntimeException", "java/lang/Exception"]) (by decide +kernel) (by decide +kernel) kk_X3_44 ki_ISE kst_61 kh_ISE_48 kh_ISE_48g dX3_pin_23 dX3_pin_26 dX3_pin_27 dX3_pin_29 dX3_pin_32 hxt ⟨Nat.le_of_ble_eq_true rfl, Nat.le_of_ble_eq_true rfl, Nat.le_of_ble_eq_true rfl, Nat.le_of_ble_eq_true rfl⟩ hlk (Or.inr ⟨rfl, by unfold pinF; rw [if_pos ibt, if_pos ibq, if_pos (by rw [ext, hL, show L = 16 by omega]; rfl)]⟩) (by omega) (by omega)

set_option maxHeartbeats 1000000 in
set_option maxRecDepth 100000 in
theorem c_X3_note (l : Launch) (hl0 : l.stackTraces = false) (D : va_G) (cy : Nat → ClassId) (ad : Nat → Nat) (ρ : Nat → Nat → Int32) (N T S d : Nat) (hI : Inv ρ N T S d) (x y : Int32) : gXI l yX3_note cX3_note 3 (some .int) { frames := 7, cells := 3, slots := 18, locals := 111 } D cy 48 ad (cC ad cy) [.ref (ad 0), .int x, .int y] ρ (fun r ρ1 => notF ρ x y = (0, r, ρ1)) (xq1 "java/lang/IndexOutOfBoundsException" (notF ρ x y).1) 3 18 := by
  refine gXI_of (ls := [(0, .ref (ad 0)), (1, .int x), (2, .int y)]) RX3 rfl (by decide +kernel) (Nat.le_of_ble_eq_true rfl) rfl ?_
  intro p e s m args below meth c A X hE hxt hr hlk
  obtain ⟨hT, hT6, hS, hS8, hd, hdN, hN, hTu, hSt, hPi, hZ⟩ := id hI
  have hwd : wdF ρ = nI (d % 7) := by unfold wdF; rw [hd, nI_clamp (by omega)]
  refine g_aload_n X dX3_note_0 0 rfl rfl ?_
  refine g_iload_n X dX3_note_1 1 rfl rfl ?_
  refine g_xcallVv X hE 0 (c_X3_checkTune l hl0 D cy ad ρ _) kl_X3_51 ⟨rfl, rfl, Nat.le_of_ble_eq_true rfl, Nat.le_of_ble_eq_true rfl⟩ (by omega) lC_O kv_X3 rfl rfl (Nat.le_of_ble_eq_true rfl) dX3_note_2 ⟨Nat.le_of_ble_eq_true rfl, Nat.le_of_ble_eq_true rfl⟩ (g_out hxt hlk (fun E h => ⟨h.1, by unfold notF; rw [if_neg h.2]⟩) (by omega) (by omega)) (fun ρ_1 h_3 => ?_)
  obtain ⟨e9, ib9⟩ := h_3
  rw [e9]
  obtain ⟨t, ht, rfl⟩ := inb_N hT (by omega) ib9
  have ibt := ib9
  have ext : ix (nI t) = t := nI_clamp (by omega)
  obtain ⟨L, hL, hL16, hLn, hLc⟩ := hTu t (by omega)
  refine g_iload_n X dX3_note_5 2 rfl rfl ?_
  refine g_if_lt X 22 dX3_note_6 (by decide) (fun c_4 => ?_) (fun c_4 => ?_)
  · skip
    have cA := c_4
    exact g_throw X hE hl0 (names := ["java/lang/RuntimeException", "java/lang/Exception"]) (by decide +kernel) (by decide +kernel) kk_X3_67 ki_IOB kst_69 kh_IOB_71 kh_IOB_71g dX3_note_22 dX3_note_25 dX3_note_26 dX3_note_28 dX3_note_31 hxt ⟨Nat.le_of_ble_eq_true rfl, Nat.le_of_ble_eq_true rfl, Nat.le_of_ble_eq_true rfl, Nat.le_of_ble_eq_true rfl⟩ hlk (⟨rfl, by unfold notF; rw [if_pos ibt, if_neg (fun q => q.1 cA)]⟩) (by omega) (by omega)
  · skip
    have cA := c_4
    refine g_iload_n X dX3_note_9 2 rfl rfl ?_
    refine g_aload_n X dX3_note_10 0 rfl rfl ?_
    refine g_getr X 0 (by omega) 2 (by decide) ku_X3 kv_X3 kf_X3_21 rfl lC_o_tunes dX3_note_11 ?_
    refine g_iload_n X dX3_note_14 1 rfl rfl ?_
    refine g_aaldN X 11 t 2 (by omega) lC_tunes rfl (by omega) (by decide) dX3_note_15 ?_
    refine g_geti X (14 + 3 * t) (by omega) 2 (by decide) ku_X2 kv_X2 kf_X3_58 rfl (lC_f_length (by omega)) dX3_note_16 ?_
    refine g_icmp_lt X 32 dX3_note_19 (by decide) (fun c_5 => ?_) (fun c_5 => ?_)
    · skip
      have ib2 : inb y (ρ (14 + 3 * t) 2) := ⟨cA, c_5⟩
      obtain ⟨k, hk, rfl⟩ := inb_N hL (by omega) ib2
      have exk : ix (nI k) = k := nI_clamp (by omega)
      refine g_aload_n X dX3_note_32 0 rfl rfl ?_
      refine g_getr X 0 (by omega) 2 (by decide) ku_X3 kv_X3 kf_X3_21 rfl lC_o_tunes dX3_note_33 ?_
      refine g_iload_n X dX3_note_36 1 rfl rfl ?_
      refine g_aaldN X 11 t 2 (by omega) lC_tunes rfl (by omega) (by decide) dX3_note_37 ?_
      refine g_getr X (14 + 3 * t) (by omega) 0 (by decide) ku_X2 kv_X2 kf_X3_72 rfl (lC_f_notes (by omega)) dX3_note_38 ?_
      refine g_iload_n X dX3_note_41 2 rfl rfl ?_
      refine g_ialdN X (15 + 3 * t) k (by omega) (lC_notes (by omega)) (by omega) (by decide) dX3_note_42 ?_
      exact g_xiret X hr hlk (by omega) (by omega) dX3_note_43 (by unfold notF; rw [if_pos ibt, ext, if_pos ib2, exk])
    · skip
      have cB := c_5
      exact g_throw X hE hl0 (names := ["java/lang/RuntimeException", "java/lang/Exception"]) (by decide +kernel) (by decide +kernel) kk_X3_67 ki_IOB kst_69 kh_IOB_71 kh_IOB_71g dX3_note_22 dX3_note_25 dX3_note_26 dX3_note_28 dX3_note_31 hxt ⟨Nat.le_of_ble_eq_true rfl, Nat.le_of_ble_eq_true rfl, Nat.le_of_ble_eq_true rfl, Nat.le_of_ble_eq_true rfl⟩ hlk (⟨rfl, by unfold notF; rw [if_pos ibt, ext, if_neg (fun q => cB q.2)]⟩) (by omega) (by omega)

set_option maxHeartbeats 1000000 in
set_option maxRecDepth 100000 in
theorem c_X3_street (l : Launch) (hl0 : l.stackTraces = false) (D : va_G) (cy : Nat → ClassId) (ad : Nat → Nat) (ρ : Nat → Nat → Int32) (N T S d : Nat) (hI : Inv ρ N T S d) (x y : Int32) : gXI l yX3_street cX3_street 3 (some .int) { frames := 7, cells := 3, slots := 18, locals := 110 } D cy 48 ad (cC ad cy) [.ref (ad 0), .int x, .int y] ρ (fun r ρ1 => strF ρ x y = (0, r, ρ1)) (xq2 "java/lang/IllegalArgumentException" "java/lang/IllegalStateException" (strF ρ x y).1) 3 18 := by
  refine gXI_of (ls := [(0, .ref (ad 0)), (1, .int x), (2, .int y)]) RX3 rfl (by decide +kernel) (Nat.le_of_ble_eq_true rfl) rfl ?_
  intro p e s m args below meth c A X hE hxt hr hlk
  obtain ⟨hT, hT6, hS, hS8, hd, hdN, hN, hTu, hSt, hPi, hZ⟩ := id hI
  have hwd : wdF ρ = nI (d % 7) := by unfold wdF; rw [hd, nI_clamp (by omega)]
  refine g_iload_n X dX3_street_0 1 rfl rfl ?_
  refine g_if_lt X 10 dX3_street_1 (by decide) (fun c_1 => ?_) (fun c_1 => ?_)
  · skip
    have cA := c_1
    exact g_throw X hE hl0 (names := ["java/lang/RuntimeException", "java/lang/Exception"]) (by decide +kernel) (by decide +kernel) kk_X3_75 ki_IAE kst_77 kh_IAE_79 kh_IAE_79g dX3_street_10 dX3_street_13 dX3_street_14 dX3_street_16 dX3_street_19 hxt ⟨Nat.le_of_ble_eq_true rfl, Nat.le_of_ble_eq_true rfl, Nat.le_of_ble_eq_true rfl, Nat.le_of_ble_eq_true rfl⟩ hlk (Or.inl ⟨rfl, by unfold strF; rw [if_neg (fun q => q.1 cA)]⟩) (by omega) (by omega)
  · skip
    have cA := c_1
    refine g_iload_n X dX3_street_4 1 rfl rfl ?_
    refine g_bipush X (v := 90) dX3_street_5 (by decide) ?_
    refine g_icmp_le X 20 dX3_street_7 (by decide) (fun c_2 => ?_) (fun c_2 => ?_)
    · skip
      have ibx : inl x 90 := ⟨cA, c_2⟩
      refine g_iload_n X dX3_street_20 2 rfl rfl ?_
      refine g_xcallSv X hE (c_X3_checkPermits l hl0 D cy ad ρ _) kl_X3_80 ⟨rfl, rfl, Nat.le_of_ble_eq_true rfl, Nat.le_of_ble_eq_true rfl⟩ rfl rfl (Nat.le_of_ble_eq_true rfl) dX3_street_21 ⟨Nat.le_of_ble_eq_true rfl, Nat.le_of_ble_eq_true rfl⟩ (g_out hxt hlk (fun E h => Or.inl ⟨h.1, by unfold strF; rw [if_pos ibx, if_neg h.2]⟩) (by omega) (by omega)) (fun ρ_3 h_5 => ?_)
      obtain ⟨e9, ib9⟩ := h_5
      rw [e9]
      have ib21 := ib9
      refine g_aload_n X dX3_street_24 0 rfl rfl ?_
      refine g_geti X 0 (by omega) 6 (by decide) ku_X3 kv_X3 kf_X3_83 rfl lC_o_streetCount dX3_street_25 ?_
      rw [show ρ 0 6 = nI S from hS]
      refine g_bipush X (v := 8) dX3_street_28 (by decide) ?_
      refine g_icmp_ltN X S 8 43 (by omega) (by omega) dX3_street_30 (by decide) (fun c_6 => ?_) (fun c_6 => ?_)
      · skip
        refine g_aload_n X dX3_street_43 0 rfl rfl ?_
        refine g_getr X 0 (by omega) 3 (by decide) ku_X3 kv_X3 kf_X3_28 rfl lC_o_streets dX3_street_44 ?_
        refine g_aload_n X dX3_street_47 0 rfl rfl ?_
        refine g_geti X 0 (by omega) 6 (by decide) ku_X3 kv_X3 kf_X3_83 rfl lC_o_streetCount dX3_street_48 ?_
        rw [show ρ 0 6 = nI S from hS]
        refine g_aaldN X 12 S 3 (by omega) lC_streets rfl (by omega) (by decide) dX3_street_51 ?_
        refine g_iload_n X dX3_street_52 1 rfl rfl ?_
        refine g_puti X (32 + 2 * S) (by omega) 1 (by decide) ku_X1 kv_X1 kf_X3_88 rfl tyX1 tyX1_ok nmX1 rfl (by decide +kernel) (lC_f_listeners (by omega)) dX3_street_53 (fun ρ_7 eρ_7 => ?_)
        refine g_aload_n X dX3_street_56 0 rfl rfl ?_
        refine g_getr X 0 (by omega) 3 (by decide) ku_X3 kv_X3 kf_X3_28 rfl lC_o_streets dX3_street_57 ?_
        refine g_aload_n X dX3_street_60 0 rfl rfl ?_
        refine g_geti X 0 (by omega) 6 (by decide) ku_X3 kv_X3 kf_X3_83 rfl lC_o_streetCount dX3_street_61 ?_
        rw [show ρ_7 0 6 = nI S by subst_vars; rw [up2_k (by omega)]; exact hS]
        refine g_aaldN X 12 S 3 (by omega) lC_streets rfl (by omega) (by decide) dX3_street_64 ?_
        refine g_iload_n X dX3_street_65 2 rfl rfl ?_
        refine g_puti X (32 + 2 * S) (by omega) 2 (by decide) ku_X1 kv_X1 kf_X3_91 rfl tyX1 tyX1_ok nmX1 rfl (by decide +kernel) (lC_f_permits (by omega)) dX3_street_66 (fun ρ_8 eρ_8 => ?_)
        refine g_aload_n X dX3_street_69 0 rfl rfl ?_
        refine g_dup X dX3_street_70 rfl ?_
        refine g_geti X 0 (by omega) 6 (by decide) ku_X3 kv_X3 kf_X3_83 rfl lC_o_streetCount dX3_street_71 ?_
        rw [show ρ_8 0 6 = nI S by subst_vars; rw [up2_k (by omega), up2_k (by omega)]; exact hS]
        refine g_dup_x1 X dX3_street_74 rfl rfl ?_
        refine g_iconst X (v := 1) dX3_street_75 (by decide) ?_
        refine g_iadd X dX3_street_76 ?_
        refine g_puti X 0 (by omega) 6 (by decide) ku_X3 kv_X3 kf_X3_83 rfl tyX3 tyX3_ok nmX3 rfl (by decide +kernel) lC_o_streetCount dX3_street_77 (fun ρ_9 eρ_9 => ?_)
        exact g_xiret X hr hlk (by omega) (by omega) dX3_street_80 (by subst_vars; unfold strF; rw [if_pos ibx, if_pos ib21, if_neg (by rw [hS]; exact nI_ne (a := S) (b := 8) (by omega) (by omega) (by omega)), hS, show ix (nI S) = S from nI_clamp (by omega)])
      · skip
        exact g_throw X hE hl0 (names := ["java/lang/RuntimeException", "java/lang/Exception"]) (by decide +kernel) (by decide +kernel) kk_X3_44 ki_ISE kst_86 kh_ISE_48 kh_ISE_48g dX3_street_33 dX3_street_36 dX3_street_37 dX3_street_39 dX3_street_42 hxt ⟨Nat.le_of_ble_eq_true rfl, Nat.le_of_ble_eq_true rfl, Nat.le_of_ble_eq_true rfl, Nat.le_of_ble_eq_true rfl⟩ hlk (Or.inr ⟨rfl, by unfold strF; rw [if_pos ibx, if_pos ib21, if_pos (by rw [hS, show S = 8 by omega]; rfl)]⟩) (by omega) (by omega)
    · skip
      have cB := c_2
      exact g_throw X hE hl0 (names := ["java/lang/RuntimeException", "java/lang/Exception"]) (by decide +kernel) (by decide +kernel) kk_X3_75 ki_IAE kst_77 kh_IAE_79 kh_IAE_79g dX3_street_10 dX3_street_13 dX3_street_14 dX3_street_16 dX3_street_19 hxt ⟨Nat.le_of_ble_eq_true rfl, Nat.le_of_ble_eq_true rfl, Nat.le_of_ble_eq_true rfl, Nat.le_of_ble_eq_true rfl⟩ hlk (Or.inl ⟨rfl, by unfold strF; rw [if_neg (fun q => cB q.2)]⟩) (by omega) (by omega)

set_option maxHeartbeats 1000000 in
set_option maxRecDepth 100000 in
theorem c_X3_permit (l : Launch) (hl0 : l.stackTraces = false) (D : va_G) (cy : Nat → ClassId) (ad : Nat → Nat) (ρ : Nat → Nat → Int32) (N T S d : Nat) (hI : Inv ρ N T S d) (x y : Int32) : gXI l yX3_permit cX3_permit 4 (some .int) { frames := 7, cells := 3, slots := 18, locals := 111 } D cy 48 ad (cC ad cy) [.ref (ad 0), .int x, .int y] ρ (fun r ρ1 => perF ρ x y = (0, r, ρ1)) (xq2 "java/lang/IndexOutOfBoundsException" "java/lang/IllegalArgumentException" (perF ρ x y).1) 3 18 := by
  refine gXI_of (ls := [(0, .ref (ad 0)), (1, .int x), (2, .int y)]) RX3 rfl (by decide +kernel) (Nat.le_of_ble_eq_true rfl) rfl ?_
  intro p e s m args below meth c A X hE hxt hr hlk
  obtain ⟨hT, hT6, hS, hS8, hd, hdN, hN, hTu, hSt, hPi, hZ⟩ := id hI
  have hwd : wdF ρ = nI (d % 7) := by unfold wdF; rw [hd, nI_clamp (by omega)]
  refine g_aload_n X dX3_permit_0 0 rfl rfl ?_
  refine g_iload_n X dX3_permit_1 1 rfl rfl ?_
  refine g_xcallVv X hE 0 (c_X3_checkStreet l hl0 D cy ad ρ _) kl_X3_94 ⟨rfl, rfl, Nat.le_of_ble_eq_true rfl, Nat.le_of_ble_eq_true rfl⟩ (by omega) lC_O kv_X3 rfl rfl (Nat.le_of_ble_eq_true rfl) dX3_permit_2 ⟨Nat.le_of_ble_eq_true rfl, Nat.le_of_ble_eq_true rfl⟩ (g_out hxt hlk (fun E h => Or.inl ⟨h.1, by unfold perF; rw [if_neg h.2]⟩) (by omega) (by omega)) (fun ρ_1 h_3 => ?_)
  obtain ⟨e9, ib9⟩ := h_3
  rw [e9]
  obtain ⟨z, hz, rfl⟩ := inb_N hS (by omega) ib9
  have ibz := ib9
  have exz : ix (nI z) = z := nI_clamp (by omega)
  refine g_iload_n X dX3_permit_5 2 rfl rfl ?_
  refine g_xcallSv X hE (c_X3_checkPermits l hl0 D cy ad ρ _) kl_X3_80 ⟨rfl, rfl, Nat.le_of_ble_eq_true rfl, Nat.le_of_ble_eq_true rfl⟩ rfl rfl (Nat.le_of_ble_eq_true rfl) dX3_permit_6 ⟨Nat.le_of_ble_eq_true rfl, Nat.le_of_ble_eq_true rfl⟩ (g_out hxt hlk (fun E h => Or.inr ⟨h.1, by unfold perF; rw [if_pos ibz, if_neg h.2]⟩) (by omega) (by omega)) (fun ρ_4 h_6 => ?_)
  obtain ⟨e9, ib9⟩ := h_6
  rw [e9]
  have ib6 := ib9
  refine g_aload_n X dX3_permit_9 0 rfl rfl ?_
  refine g_getr X 0 (by omega) 3 (by decide) ku_X3 kv_X3 kf_X3_28 rfl lC_o_streets dX3_permit_10 ?_
  refine g_iload_n X dX3_permit_13 1 rfl rfl ?_
  refine g_aaldN X 12 z 3 (by omega) lC_streets rfl (by omega) (by decide) dX3_permit_14 ?_
  refine g_geti X (32 + 2 * z) (by omega) 2 (by decide) ku_X1 kv_X1 kf_X3_91 rfl (lC_f_permits (by omega)) dX3_permit_15 ?_
  refine g_istore_n X [(3, .int _), (0, .ref _), (1, .int _), (2, .int _)] dX3_permit_18 rfl (by decide) rfl ?_
  refine g_aload_n X dX3_permit_19 1 rfl rfl ?_
  refine g_getr X 0 (by omega) 3 (by decide) ku_X3 kv_X3 kf_X3_28 rfl lC_o_streets dX3_permit_20 ?_
  refine g_iload_n X dX3_permit_23 2 rfl rfl ?_
  refine g_aaldN X 12 z 3 (by omega) lC_streets rfl (by omega) (by decide) dX3_permit_24 ?_
  refine g_iload_n X dX3_permit_25 3 rfl rfl ?_
  refine g_puti X (32 + 2 * z) (by omega) 2 (by decide) ku_X1 kv_X1 kf_X3_91 rfl tyX1 tyX1_ok nmX1 rfl (by decide +kernel) (lC_f_permits (by omega)) dX3_permit_26 (fun ρ_7 eρ_7 => ?_)
  refine g_iload_n X dX3_permit_29 0 rfl rfl ?_
  exact g_xiret X hr hlk (by omega) (by omega) dX3_permit_30 (by subst_vars; unfold perF; rw [if_pos ibz, if_pos ib6, exz])

set_option maxHeartbeats 1000000 in
set_option maxRecDepth 100000 in
theorem c_X3_setDamp (l : Launch) (hl0 : l.stackTraces = false) (D : va_G) (cy : Nat → ClassId) (ad : Nat → Nat) (ρ : Nat → Nat → Int32) (N T S d : Nat) (hI : Inv ρ N T S d) (x y : Int32) : gXI l yX3_setDamp cX3_setDamp 4 (some .int) { frames := 6, cells := 3, slots := 18, locals := 90 } D cy 48 ad (cC ad cy) [.ref (ad 0), .int x, .int y] ρ (fun r ρ1 => damF ρ x y = (0, r, ρ1)) (xq2 "java/lang/IndexOutOfBoundsException" "java/lang/IllegalArgumentException" (damF ρ x y).1) 3 18 := by
  refine gXI_of (ls := [(0, .ref (ad 0)), (1, .int x), (2, .int y)]) RX3 rfl (by decide +kernel) (Nat.le_of_ble_eq_true rfl) rfl ?_
  intro p e s m args below meth c A X hE hxt hr hlk
  obtain ⟨hT, hT6, hS, hS8, hd, hdN, hN, hTu, hSt, hPi, hZ⟩ := id hI
  have hwd : wdF ρ = nI (d % 7) := by unfold wdF; rw [hd, nI_clamp (by omega)]
  refine g_iload_n X dX3_setDamp_0 1 rfl rfl ?_
  refine g_if_lt X 10 dX3_setDamp_1 (by decide) (fun c_1 => ?_) (fun c_1 => ?_)
  · skip
    have cA := c_1
    exact g_throw X hE hl0 (names := ["java/lang/RuntimeException", "java/lang/Exception"]) (by decide +kernel) (by decide +kernel) kk_X3_67 ki_IOB kst_97 kh_IOB_71 kh_IOB_71g dX3_setDamp_10 dX3_setDamp_13 dX3_setDamp_14 dX3_setDamp_16 dX3_setDamp_19 hxt ⟨Nat.le_of_ble_eq_true rfl, Nat.le_of_ble_eq_true rfl, Nat.le_of_ble_eq_true rfl, Nat.le_of_ble_eq_true rfl⟩ hlk (Or.inl ⟨rfl, by unfold damF; rw [if_neg (fun q => q.1 cA)]⟩) (by omega) (by omega)
  · skip
    have cA := c_1
    refine g_iload_n X dX3_setDamp_4 1 rfl rfl ?_
    refine g_bipush X (v := 7) dX3_setDamp_5 (by decide) ?_
    refine g_icmp_lt X 20 dX3_setDamp_7 (by decide) (fun c_2 => ?_) (fun c_2 => ?_)
    · skip
      have ibw : inb x 7 := ⟨cA, c_2⟩
      obtain ⟨k, hk, rfl⟩ := inb_N (T := 7) rfl (by omega) ibw
      have exk : ix (nI k) = k := nI_clamp (by omega)
      refine g_iload_n X dX3_setDamp_20 2 rfl rfl ?_
      refine g_if_lt X 29 dX3_setDamp_21 (by decide) (fun c_3 => ?_) (fun c_3 => ?_)
      · skip
        have cC := c_3
        exact g_throw X hE hl0 (names := ["java/lang/RuntimeException", "java/lang/Exception"]) (by decide +kernel) (by decide +kernel) kk_X3_75 ki_IAE kst_99 kh_IAE_79 kh_IAE_79g dX3_setDamp_29 dX3_setDamp_32 dX3_setDamp_33 dX3_setDamp_35 dX3_setDamp_38 hxt ⟨Nat.le_of_ble_eq_true rfl, Nat.le_of_ble_eq_true rfl, Nat.le_of_ble_eq_true rfl, Nat.le_of_ble_eq_true rfl⟩ hlk (Or.inr ⟨rfl, by unfold damF; rw [if_pos ibw, if_neg (fun q => q.1 cC)]⟩) (by omega) (by omega)
      · skip
        have cC := c_3
        refine g_iload_n X dX3_setDamp_24 2 rfl rfl ?_
        refine g_iconst X (v := 5) dX3_setDamp_25 (by decide) ?_
        refine g_icmp_le X 39 dX3_setDamp_26 (by decide) (fun c_4 => ?_) (fun c_4 => ?_)
        · skip
          have cD := c_4
          refine g_aload_n X dX3_setDamp_39 0 rfl rfl ?_
          refine g_getr X 0 (by omega) 4 (by decide) ku_X3 kv_X3 kf_X3_33 rfl lC_o_damp dX3_setDamp_40 ?_
          refine g_iload_n X dX3_setDamp_43 1 rfl rfl ?_
          refine g_ialdN X 13 k (by omega) lC_damp (by omega) (by decide) dX3_setDamp_44 ?_
          refine g_istore_n X [(3, .int _), (0, .ref _), (1, .int _), (2, .int _)] dX3_setDamp_45 rfl (by decide) rfl ?_
          refine g_aload_n X dX3_setDamp_46 1 rfl rfl ?_
          refine g_getr X 0 (by omega) 4 (by decide) ku_X3 kv_X3 kf_X3_33 rfl lC_o_damp dX3_setDamp_47 ?_
          refine g_iload_n X dX3_setDamp_50 2 rfl rfl ?_
          refine g_iload_n X dX3_setDamp_51 3 rfl rfl ?_
          refine g_iastN X 13 k (by omega) lC_damp (by omega) (by decide) dX3_setDamp_52 (fun ρ_5 eρ_5 => ?_)
          refine g_iload_n X dX3_setDamp_53 0 rfl rfl ?_
          exact g_xiret X hr hlk (by omega) (by omega) dX3_setDamp_54 (by subst_vars; unfold damF; rw [if_pos ibw, if_pos ⟨cC, cD⟩, exk])
        · skip
          have cD := c_4
          exact g_throw X hE hl0 (names := ["java/lang/RuntimeException", "java/lang/Exception"]) (by decide +kernel) (by decide +kernel) kk_X3_75 ki_IAE kst_99 kh_IAE_79 kh_IAE_79g dX3_setDamp_29 dX3_setDamp_32 dX3_setDamp_33 dX3_setDamp_35 dX3_setDamp_38 hxt ⟨Nat.le_of_ble_eq_true rfl, Nat.le_of_ble_eq_true rfl, Nat.le_of_ble_eq_true rfl, Nat.le_of_ble_eq_true rfl⟩ hlk (Or.inr ⟨rfl, by unfold damF; rw [if_pos ibw, if_neg (fun q => cD q.2)]⟩) (by omega) (by omega)
    · skip
      have cB := c_2
      exact g_throw X hE hl0 (names := ["java/lang/RuntimeException", "java/lang/Exception"]) (by decide +kernel) (by decide +kernel) kk_X3_67 ki_IOB kst_97 kh_IOB_71 kh_IOB_71g dX3_setDamp_10 dX3_setDamp_13 dX3_setDamp_14 dX3_setDamp_16 dX3_setDamp_19 hxt ⟨Nat.le_of_ble_eq_true rfl, Nat.le_of_ble_eq_true rfl, Nat.le_of_ble_eq_true rfl, Nat.le_of_ble_eq_true rfl⟩ hlk (Or.inl ⟨rfl, by unfold damF; rw [if_neg (fun q => cB q.2)]⟩) (by omega) (by omega)

set_option maxHeartbeats 1000000 in
set_option maxRecDepth 100000 in
theorem c_X3_play (l : Launch) (hl0 : l.stackTraces = false) (D : va_G) (cy : Nat → ClassId) (ad : Nat → Nat) (ρ : Nat → Nat → Int32) (N T S d : Nat) (hI : Inv ρ N T S d) (x y : Int32) : gXI l yX3_play cX3_play 4 (some .int) { frames := 7, cells := 3, slots := 18, locals := 111 } D cy 48 ad (cC ad cy) [.ref (ad 0), .int x, .int y] ρ (fun r ρ1 => plaF ρ x y = (0, r, ρ1)) (xq2 "java/lang/IndexOutOfBoundsException" "java/lang/IllegalStateException" (plaF ρ x y).1) 3 18 := by
  refine gXI_of (ls := [(0, .ref (ad 0)), (1, .int x), (2, .int y)]) RX3 rfl (by decide +kernel) (Nat.le_of_ble_eq_true rfl) rfl ?_
  intro p e s m args below meth c A X hE hxt hr hlk
  obtain ⟨hT, hT6, hS, hS8, hd, hdN, hN, hTu, hSt, hPi, hZ⟩ := id hI
  have hwd : wdF ρ = nI (d % 7) := by unfold wdF; rw [hd, nI_clamp (by omega)]
  refine g_aload_n X dX3_play_0 0 rfl rfl ?_
  refine g_iload_n X dX3_play_1 1 rfl rfl ?_
  refine g_xcallVv X hE 0 (c_X3_checkStreet l hl0 D cy ad ρ _) kl_X3_94 ⟨rfl, rfl, Nat.le_of_ble_eq_true rfl, Nat.le_of_ble_eq_true rfl⟩ (by omega) lC_O kv_X3 rfl rfl (Nat.le_of_ble_eq_true rfl) dX3_play_2 ⟨Nat.le_of_ble_eq_true rfl, Nat.le_of_ble_eq_true rfl⟩ (g_out hxt hlk (fun E h => Or.inl ⟨h.1, by unfold plaF; rw [if_neg h.2]⟩) (by omega) (by omega)) (fun ρ_1 h_3 => ?_)
  obtain ⟨e9, ib9⟩ := h_3
  rw [e9]
  obtain ⟨z, hz, rfl⟩ := inb_N hS (by omega) ib9
  have ibz := ib9
  have exz : ix (nI z) = z := nI_clamp (by omega)
  refine g_aload_n X dX3_play_5 0 rfl rfl ?_
  refine g_iload_n X dX3_play_6 2 rfl rfl ?_
  refine g_xcallVv X hE 0 (c_X3_checkTune l hl0 D cy ad ρ _) kl_X3_51 ⟨rfl, rfl, Nat.le_of_ble_eq_true rfl, Nat.le_of_ble_eq_true rfl⟩ (by omega) lC_O kv_X3 rfl rfl (Nat.le_of_ble_eq_true rfl) dX3_play_7 ⟨Nat.le_of_ble_eq_true rfl, Nat.le_of_ble_eq_true rfl⟩ (g_out hxt hlk (fun E h => Or.inl ⟨h.1, by unfold plaF; rw [if_pos ibz, if_neg h.2]⟩) (by omega) (by omega)) (fun ρ_4 h_6 => ?_)
  obtain ⟨e9, ib9⟩ := h_6
  rw [e9]
  obtain ⟨t, ht, rfl⟩ := inb_N hT (by omega) ib9
  have ibt := ib9
  have ext : ix (nI t) = t := nI_clamp (by omega)
  refine g_aload_n X dX3_play_10 0 rfl rfl ?_
  refine g_getr X 0 (by omega) 2 (by decide) ku_X3 kv_X3 kf_X3_21 rfl lC_o_tunes dX3_play_11 ?_
  refine g_iload_n X dX3_play_14 2 rfl rfl ?_
  refine g_aaldN X 11 t 2 (by omega) lC_tunes rfl (by omega) (by decide) dX3_play_15 ?_
  refine g_geti X (14 + 3 * t) (by omega) 2 (by decide) ku_X2 kv_X2 kf_X3_58 rfl (lC_f_length (by omega)) dX3_play_16 ?_
  refine g_if_ne X 32 dX3_play_19 (by decide) (fun c_7 => ?_) (fun c_7 => ?_)
  · skip
    have cL := c_7
    refine g_aload_n X dX3_play_32 0 rfl rfl ?_
    refine g_getr X 0 (by omega) 3 (by decide) ku_X3 kv_X3 kf_X3_28 rfl lC_o_streets dX3_play_33 ?_
    refine g_iload_n X dX3_play_36 1 rfl rfl ?_
    refine g_aaldN X 12 z 3 (by omega) lC_streets rfl (by omega) (by decide) dX3_play_37 ?_
    refine g_aload_n X dX3_play_38 0 rfl rfl ?_
    refine g_geti X 0 (by omega) 7 (by decide) ku_X3 kv_X3 kf_X3_103 rfl lC_o_day dX3_play_39 ?_
    rw [show ρ 0 7 = nI d from hd]
    refine g_mcallSi X (c_X3_weekdayOf l D cy ad ρ d (by omega)) kl_X3_106 ⟨rfl, rfl, Nat.le_of_ble_eq_true rfl, Nat.le_of_ble_eq_true rfl⟩ rfl rfl (Nat.le_of_ble_eq_true rfl) dX3_play_42 ⟨Nat.le_of_ble_eq_true rfl, Nat.le_of_ble_eq_true rfl⟩ (fun r_9 ρ_8 h_10 => ?_)
    obtain ⟨er_9, e9⟩ := h_10
    rw [e9, er_9]
    clear e9
    refine g_mcallVi X (32 + 2 * z) (c_X1_isPermittedOn l D cy ad ρ z _ (by omega)) kl_X3_109 ⟨rfl, rfl, Nat.le_of_ble_eq_true rfl, Nat.le_of_ble_eq_true rfl⟩ (by omega) (lC_S (by omega)) kv_X1 rfl rfl (Nat.le_of_ble_eq_true rfl) dX3_play_45 ⟨Nat.le_of_ble_eq_true rfl, Nat.le_of_ble_eq_true rfl⟩ (fun r_12 ρ_11 h_13 => ?_)
    obtain ⟨er_12, e9⟩ := h_13
    rw [e9, er_12]
    clear e9
    refine g_if_ne X 57 dX3_play_48 (by decide) (fun c_14 => ?_) (fun c_14 => ?_)
    · skip
      have cP := c_14
      refine g_aload_n X dX3_play_57 0 rfl rfl ?_
      refine g_iload_n X dX3_play_58 1 rfl rfl ?_
      refine g_iload_n X dX3_play_59 2 rfl rfl ?_
      refine g_mcallVi X 0 (c_X3_payNow l D cy ad ρ z t (by omega) (by omega) (Inv_pay hI (by omega) (by omega))) kl_X3_117 ⟨rfl, rfl, Nat.le_of_ble_eq_true rfl, Nat.le_of_ble_eq_true rfl⟩ (by omega) lC_O kv_X3 rfl rfl (Nat.le_of_ble_eq_true rfl) dX3_play_60 ⟨Nat.le_of_ble_eq_true rfl, Nat.le_of_ble_eq_true rfl⟩ (fun r_16 ρ_15 h_17 => ?_)
      obtain ⟨er_16, e9⟩ := h_17
      rw [e9, er_16]
      clear e9
      refine g_istore_n X [(3, .int _), (0, .ref _), (1, .int _), (2, .int _)] dX3_play_63 rfl (by decide) rfl ?_
      refine g_aload_n X dX3_play_64 1 rfl rfl ?_
      refine g_dup X dX3_play_65 rfl ?_
      refine g_geti X 0 (by omega) 8 (by decide) ku_X3 kv_X3 kf_X3_37 rfl lC_o_coins dX3_play_66 ?_
      refine g_iload_n X dX3_play_69 0 rfl rfl ?_
      refine g_iadd X dX3_play_70 ?_
      refine g_puti X 0 (by omega) 8 (by decide) ku_X3 kv_X3 kf_X3_37 rfl tyX3 tyX3_ok nmX3 rfl (by decide +kernel) lC_o_coins dX3_play_71 (fun ρ_18 eρ_18 => ?_)
      refine g_aload_n X dX3_play_74 1 rfl rfl ?_
      refine g_getr X 0 (by omega) 3 (by decide) ku_X3 kv_X3 kf_X3_28 rfl lC_o_streets dX3_play_75 ?_
      refine g_iload_n X dX3_play_78 2 rfl rfl ?_
      refine g_aaldN X 12 z 3 (by omega) lC_streets rfl (by omega) (by decide) dX3_play_79 ?_
      refine g_dup X dX3_play_80 rfl ?_
      refine g_geti X (32 + 2 * z) (by omega) 3 (by decide) ku_X1 kv_X1 kf_X3_121 rfl (lC_f_paid (by omega)) dX3_play_81 ?_
      rw [show ρ_18 (32 + 2 * z) 3 = ρ (32 + 2 * z) 3 by subst_vars; rw [up2_k (by omega)]]
      refine g_iload_n X dX3_play_84 0 rfl rfl ?_
      refine g_iadd X dX3_play_85 ?_
      refine g_puti X (32 + 2 * z) (by omega) 3 (by decide) ku_X1 kv_X1 kf_X3_121 rfl tyX1 tyX1_ok nmX1 rfl (by decide +kernel) (lC_f_paid (by omega)) dX3_play_86 (fun ρ_19 eρ_19 => ?_)
      refine g_aload_n X dX3_play_89 1 rfl rfl ?_
      refine g_getr X 0 (by omega) 3 (by decide) ku_X3 kv_X3 kf_X3_28 rfl lC_o_streets dX3_play_90 ?_
      refine g_iload_n X dX3_play_93 2 rfl rfl ?_
      refine g_aaldN X 12 z 3 (by omega) lC_streets rfl (by omega) (by decide) dX3_play_94 ?_
      refine g_getr X (32 + 2 * z) (by omega) 0 (by decide) ku_X1 kv_X1 kf_X3_124 rfl (lC_f_heard (by omega)) dX3_play_95 ?_
      refine g_iload_n X dX3_play_98 3 rfl rfl ?_
      refine g_dup2 X dX3_play_99 rfl rfl ?_
      refine g_ialdN X (33 + 2 * z) t (by omega) (lC_heard (by omega)) (by omega) (by decide) dX3_play_100 ?_
      rw [show ρ_19 (33 + 2 * z) t = ρ (33 + 2 * z) t by subst_vars; rw [up2_k (by omega), up2_k (by omega)]]
      refine g_iconst X (v := 1) dX3_play_101 (by decide) ?_
      refine g_iadd X dX3_play_102 ?_
      refine g_iastN X (33 + 2 * z) t (by omega) (lC_heard (by omega)) (by omega) (by decide) dX3_play_103 (fun ρ_20 eρ_20 => ?_)
      refine g_aload_n X dX3_play_104 1 rfl rfl ?_
      refine g_getr X 0 (by omega) 2 (by decide) ku_X3 kv_X3 kf_X3_21 rfl lC_o_tunes dX3_play_105 ?_
      refine g_iload_n X dX3_play_108 3 rfl rfl ?_
      refine g_aaldN X 11 t 2 (by omega) lC_tunes rfl (by omega) (by decide) dX3_play_109 ?_
      refine g_aload_n X dX3_play_110 1 rfl rfl ?_
      refine g_getr X 0 (by omega) 0 (by decide) ku_X3 kv_X3 kf_X3_10 rfl lC_o_pipes dX3_play_111 ?_
      refine g_mcallVv X (14 + 3 * t) (c_X2_wearDown l D cy ad ρ_20 t 1 (by omega) (Or.inl rfl)) kl_X3_127 ⟨rfl, rfl, Nat.le_of_ble_eq_true rfl, Nat.le_of_ble_eq_true rfl⟩ (by omega) (lC_T (by omega)) kv_X2 rfl rfl (Nat.le_of_ble_eq_true rfl) dX3_play_114 ⟨Nat.le_of_ble_eq_true rfl, Nat.le_of_ble_eq_true rfl⟩ (fun ρ_21 h_23 => ?_)
      refine g_iload_n X dX3_play_117 0 rfl rfl ?_
      exact g_xiret X hr hlk (by omega) (by omega) dX3_play_118 (by subst_vars; unfold plaF; rw [if_pos ibz, if_pos ibt, if_neg (by rw [ext]; exact cL), if_neg (by rw [exz, hwd]; exact cP), exz, ext]; rfl)
    · skip
      have cP := c_14
      refine g_aload_n X dX3_play_51 0 rfl rfl ?_
      refine g_mcallVi X 0 (c_X3_payFine l D cy ad ρ ) kl_X3_113 ⟨rfl, rfl, Nat.le_of_ble_eq_true rfl, Nat.le_of_ble_eq_true rfl⟩ (by omega) lC_O kv_X3 rfl rfl (Nat.le_of_ble_eq_true rfl) dX3_play_52 ⟨Nat.le_of_ble_eq_true rfl, Nat.le_of_ble_eq_true rfl⟩ (fun r_25 ρ_24 h_26 => ?_)
      obtain ⟨er_25, eρ_24⟩ := h_26
      refine g_ineg X dX3_play_55 ?_
      exact g_xiret X hr hlk (by omega) (by omega) dX3_play_56 (by subst_vars; unfold plaF; rw [if_pos ibz, if_pos ibt, if_neg (by rw [ext]; exact cL), if_pos (by rw [exz, hwd]; exact cP)])
  · skip
    have cL := c_7
    exact g_throw X hE hl0 (names := ["java/lang/RuntimeException", "java/lang/Exception"]) (by decide +kernel) (by decide +kernel) kk_X3_44 ki_ISE kst_101 kh_ISE_48 kh_ISE_48g dX3_play_22 dX3_play_25 dX3_play_26 dX3_play_28 dX3_play_31 hxt ⟨Nat.le_of_ble_eq_true rfl, Nat.le_of_ble_eq_true rfl, Nat.le_of_ble_eq_true rfl, Nat.le_of_ble_eq_true rfl⟩ hlk (Or.inr ⟨rfl, by unfold plaF; rw [if_pos ibz, if_pos ibt, if_pos (by rw [ext]; exact cL)]⟩) (by omega) (by omega)

set_option maxHeartbeats 1000000 in
set_option maxRecDepth 100000 in
theorem c_X3_tune (l : Launch) (hl0 : l.stackTraces = false) (D : va_G) (cy : Nat → ClassId) (ad : Nat → Nat) (ρ : Nat → Nat → Int32) (N T S d : Nat) (hI : Inv ρ N T S d) (x y : Int32) : gXI l yX3_tune cX3_tune 3 (some .int) { frames := 7, cells := 3, slots := 18, locals := 110 } D cy 48 ad (cC ad cy) [.ref (ad 0), .int x, .int y] ρ (fun r ρ1 => tunF ρ x y = (0, r, ρ1)) (xq2 "java/lang/IndexOutOfBoundsException" "java/lang/IllegalArgumentException" (tunF ρ x y).1) 3 18 := by
  refine gXI_of (ls := [(0, .ref (ad 0)), (1, .int x), (2, .int y)]) RX3 rfl (by decide +kernel) (Nat.le_of_ble_eq_true rfl) rfl ?_
  intro p e s m args below meth c A X hE hxt hr hlk
  obtain ⟨hT, hT6, hS, hS8, hd, hdN, hN, hTu, hSt, hPi, hZ⟩ := id hI
  have hwd : wdF ρ = nI (d % 7) := by unfold wdF; rw [hd, nI_clamp (by omega)]
  refine g_iload_n X dX3_tune_0 1 rfl rfl ?_
  refine g_xcallSv X hE (c_X3_checkPipe l hl0 D cy ad ρ _) kl_X3_55 ⟨rfl, rfl, Nat.le_of_ble_eq_true rfl, Nat.le_of_ble_eq_true rfl⟩ rfl rfl (Nat.le_of_ble_eq_true rfl) dX3_tune_1 ⟨Nat.le_of_ble_eq_true rfl, Nat.le_of_ble_eq_true rfl⟩ (g_out hxt hlk (fun E h => Or.inl ⟨h.1, by unfold tunF; rw [if_neg h.2]⟩) (by omega) (by omega)) (fun ρ_1 h_3 => ?_)
  obtain ⟨e9, ib9⟩ := h_3
  rw [e9]
  obtain ⟨i, hi, rfl⟩ := inb_N (T := 12) rfl (by omega) ib9
  have ibi := ib9
  have exi : ix (nI i) = i := nI_clamp (by omega)
  refine g_iload_n X dX3_tune_4 2 rfl rfl ?_
  refine g_bipush X (v := -120) dX3_tune_5 (by decide) ?_
  refine g_icmp_lt X 16 dX3_tune_7 (by decide) (fun c_4 => ?_) (fun c_4 => ?_)
  · skip
    have cA := c_4
    exact g_throw X hE hl0 (names := ["java/lang/RuntimeException", "java/lang/Exception"]) (by decide +kernel) (by decide +kernel) kk_X3_75 ki_IAE kst_131 kh_IAE_79 kh_IAE_79g dX3_tune_16 dX3_tune_19 dX3_tune_20 dX3_tune_22 dX3_tune_25 hxt ⟨Nat.le_of_ble_eq_true rfl, Nat.le_of_ble_eq_true rfl, Nat.le_of_ble_eq_true rfl, Nat.le_of_ble_eq_true rfl⟩ hlk (Or.inr ⟨rfl, by unfold tunF; rw [if_pos ibi, if_neg (fun q => q.1 cA)]⟩) (by omega) (by omega)
  · skip
    have cA := c_4
    refine g_iload_n X dX3_tune_10 2 rfl rfl ?_
    refine g_bipush X (v := 120) dX3_tune_11 (by decide) ?_
    refine g_icmp_le X 26 dX3_tune_13 (by decide) (fun c_5 => ?_) (fun c_5 => ?_)
    · skip
      have cB := c_5
      refine g_aload_n X dX3_tune_26 0 rfl rfl ?_
      refine g_getr X 0 (by omega) 0 (by decide) ku_X3 kv_X3 kf_X3_10 rfl lC_o_pipes dX3_tune_27 ?_
      refine g_iload_n X dX3_tune_30 1 rfl rfl ?_
      refine g_iload_n X dX3_tune_31 2 rfl rfl ?_
      refine g_mcallVv X 1 (c_X0_shift l D cy ad ρ 1 i _ (Or.inl rfl) (by omega)) kl_X3_133 ⟨rfl, rfl, Nat.le_of_ble_eq_true rfl, Nat.le_of_ble_eq_true rfl⟩ (by omega) (lC_P (Or.inl rfl)) kv_X0 rfl rfl (Nat.le_of_ble_eq_true rfl) dX3_tune_32 ⟨Nat.le_of_ble_eq_true rfl, Nat.le_of_ble_eq_true rfl⟩ (fun ρ_6 h_8 => ?_)
      refine g_aload_n X dX3_tune_35 0 rfl rfl ?_
      refine g_getr X 0 (by omega) 0 (by decide) ku_X3 kv_X3 kf_X3_10 rfl lC_o_pipes dX3_tune_36 ?_
      refine g_getr X 1 (by omega) 1 (by decide) ku_X0 kv_X0 kf_X3_137 rfl (lC_f_off (Or.inl rfl)) dX3_tune_39 ?_
      refine g_iload_n X dX3_tune_42 1 rfl rfl ?_
      refine g_ialdN X (1 + 2) i (by omega) (lC_off (Or.inl rfl)) (by omega) (by decide) dX3_tune_43 ?_
      exact g_xiret X hr hlk (by omega) (by omega) dX3_tune_44 (by subst_vars; unfold tunF; rw [if_pos ibi, if_pos ⟨cA, cB⟩, exi, up2_s])
    · skip
      have cB := c_5
      exact g_throw X hE hl0 (names := ["java/lang/RuntimeException", "java/lang/Exception"]) (by decide +kernel) (by decide +kernel) kk_X3_75 ki_IAE kst_131 kh_IAE_79 kh_IAE_79g dX3_tune_16 dX3_tune_19 dX3_tune_20 dX3_tune_22 dX3_tune_25 hxt ⟨Nat.le_of_ble_eq_true rfl, Nat.le_of_ble_eq_true rfl, Nat.le_of_ble_eq_true rfl, Nat.le_of_ble_eq_true rfl⟩ hlk (Or.inr ⟨rfl, by unfold tunF; rw [if_pos ibi, if_neg (fun q => cB q.2)]⟩) (by omega) (by omega)

set_option maxHeartbeats 1000000 in
set_option maxRecDepth 100000 in
theorem c_X3_felt (l : Launch) (hl0 : l.stackTraces = false) (D : va_G) (cy : Nat → ClassId) (ad : Nat → Nat) (ρ : Nat → Nat → Int32) (N T S d : Nat) (hI : Inv ρ N T S d) (x : Int32) : gXI l yX3_felt cX3_felt 3 (some .int) { frames := 7, cells := 3, slots := 18, locals := 110 } D cy 48 ad (cC ad cy) [.ref (ad 0), .int x] ρ (fun r ρ1 => felF ρ x = (0, r, ρ1)) (xq2 "java/lang/IndexOutOfBoundsException" "java/lang/IllegalStateException" (felF ρ x).1) 3 18 := by
  refine gXI_of (ls := [(0, .ref (ad 0)), (1, .int x)]) RX3 rfl (by decide +kernel) (Nat.le_of_ble_eq_true rfl) rfl ?_
  intro p e s m args below meth c A X hE hxt hr hlk
  obtain ⟨hT, hT6, hS, hS8, hd, hdN, hN, hTu, hSt, hPi, hZ⟩ := id hI
  have hwd : wdF ρ = nI (d % 7) := by unfold wdF; rw [hd, nI_clamp (by omega)]
  refine g_iload_n X dX3_felt_0 1 rfl rfl ?_
  refine g_xcallSv X hE (c_X3_checkPipe l hl0 D cy ad ρ _) kl_X3_55 ⟨rfl, rfl, Nat.le_of_ble_eq_true rfl, Nat.le_of_ble_eq_true rfl⟩ rfl rfl (Nat.le_of_ble_eq_true rfl) dX3_felt_1 ⟨Nat.le_of_ble_eq_true rfl, Nat.le_of_ble_eq_true rfl⟩ (g_out hxt hlk (fun E h => Or.inl ⟨h.1, by unfold felF; rw [if_neg h.2]⟩) (by omega) (by omega)) (fun ρ_1 h_3 => ?_)
  obtain ⟨e9, ib9⟩ := h_3
  rw [e9]
  obtain ⟨i, hi, rfl⟩ := inb_N (T := 12) rfl (by omega) ib9
  have ibi := ib9
  have exi : ix (nI i) = i := nI_clamp (by omega)
  refine g_aload_n X dX3_felt_4 0 rfl rfl ?_
  refine g_geti X 0 (by omega) 8 (by decide) ku_X3 kv_X3 kf_X3_37 rfl lC_o_coins dX3_felt_5 ?_
  refine g_iconst X (v := 4) dX3_felt_8 (by decide) ?_
  refine g_icmp_ge X 22 dX3_felt_9 (by decide) (fun c_4 => ?_) (fun c_4 => ?_)
  · skip
    have cA := c_4
    refine g_aload_n X dX3_felt_22 0 rfl rfl ?_
    refine g_dup X dX3_felt_23 rfl ?_
    refine g_geti X 0 (by omega) 8 (by decide) ku_X3 kv_X3 kf_X3_37 rfl lC_o_coins dX3_felt_24 ?_
    refine g_iconst X (v := 4) dX3_felt_27 (by decide) ?_
    refine g_isub X dX3_felt_28 ?_
    refine g_puti X 0 (by omega) 8 (by decide) ku_X3 kv_X3 kf_X3_37 rfl tyX3 tyX3_ok nmX3 rfl (by decide +kernel) lC_o_coins dX3_felt_29 (fun ρ_5 eρ_5 => ?_)
    refine g_aload_n X dX3_felt_32 0 rfl rfl ?_
    refine g_getr X 0 (by omega) 0 (by decide) ku_X3 kv_X3 kf_X3_10 rfl lC_o_pipes dX3_felt_33 ?_
    refine g_getr X 1 (by omega) 0 (by decide) ku_X0 kv_X0 kf_X3_142 rfl (lC_f_worn (Or.inl rfl)) dX3_felt_36 ?_
    refine g_iload_n X dX3_felt_39 1 rfl rfl ?_
    refine g_ialdN X (1 + 1) i (by omega) (lC_worn (Or.inl rfl)) (by omega) (by decide) dX3_felt_40 ?_
    rw [show ρ_5 (1 + 1) i = ρ 2 i by subst_vars; rw [up2_k (by omega)]]
    refine g_istore_n X [(2, .int _), (0, .ref _), (1, .int _)] dX3_felt_41 rfl (by decide) rfl ?_
    refine g_aload_n X dX3_felt_42 1 rfl rfl ?_
    refine g_getr X 0 (by omega) 0 (by decide) ku_X3 kv_X3 kf_X3_10 rfl lC_o_pipes dX3_felt_43 ?_
    refine g_getr X 1 (by omega) 0 (by decide) ku_X0 kv_X0 kf_X3_142 rfl (lC_f_worn (Or.inl rfl)) dX3_felt_46 ?_
    refine g_iload_n X dX3_felt_49 2 rfl rfl ?_
    refine g_iconst X (v := 0) dX3_felt_50 (by decide) ?_
    refine g_iastN X (1 + 1) i (by omega) (lC_worn (Or.inl rfl)) (by omega) (by decide) dX3_felt_51 (fun ρ_6 eρ_6 => ?_)
    refine g_iload_n X dX3_felt_52 0 rfl rfl ?_
    exact g_xiret X hr hlk (by omega) (by omega) dX3_felt_53 (by subst_vars; unfold felF; rw [if_pos ibi, if_neg (Int32.not_lt.mpr cA), exi])
  · skip
    have cA := c_4
    exact g_throw X hE hl0 (names := ["java/lang/RuntimeException", "java/lang/Exception"]) (by decide +kernel) (by decide +kernel) kk_X3_44 ki_ISE kst_140 kh_ISE_48 kh_ISE_48g dX3_felt_12 dX3_felt_15 dX3_felt_16 dX3_felt_18 dX3_felt_21 hxt ⟨Nat.le_of_ble_eq_true rfl, Nat.le_of_ble_eq_true rfl, Nat.le_of_ble_eq_true rfl, Nat.le_of_ble_eq_true rfl⟩ hlk (Or.inr ⟨rfl, by unfold felF; rw [if_pos ibi, if_pos (Int32.not_le.mp cA)]⟩) (by omega) (by omega)

set_option maxHeartbeats 1000000 in
set_option maxRecDepth 100000 in
theorem c_X3_chase (l : Launch) (D : va_G) (cy : Nat → ClassId) (ad : Nat → Nat) (ρ : Nat → Nat → Int32)  : gMI l yX3_chase cX3_chase 2 (some .int) { frames := 1, cells := 0, slots := 0, locals := 22 } D cy 48 ad (cC ad cy) [.ref (ad 0)] ρ (fun r ρ1 => r = crc ρ 1 ∧ ρ1 = clrR ρ 1 12) 0 0 := by
  refine gMI_of (ls := [(0, .ref (ad 0))]) RX3 rfl (by decide +kernel) (Nat.le_of_ble_eq_true rfl) rfl ?_
  intro p e s m args below meth c A X hr hlk hnm
  refine g_aload_n X dX3_chase_0 0 rfl rfl ?_
  refine g_getr X 0 (by omega) 0 (by decide) ku_X3 kv_X3 kf_X3_10 rfl lC_o_pipes dX3_chase_1 ?_
  refine g_mcallVi X 1 (c_X0_cricketCount l D cy ad ρ 1 (Or.inl rfl)) kl_X3_145 ⟨rfl, rfl, Nat.le_of_ble_eq_true rfl, Nat.le_of_ble_eq_true rfl⟩ (by omega) (lC_P (Or.inl rfl)) kv_X0 rfl rfl (Nat.le_of_ble_eq_true rfl) dX3_chase_4 ⟨Nat.le_of_ble_eq_true rfl, Nat.le_of_ble_eq_true rfl⟩ (fun r_2 ρ_1 h_3 => ?_)
  obtain ⟨er_2, e9⟩ := h_3
  rw [e9, er_2]
  clear e9
  refine g_istore_n X [(1, .int _), (0, .ref _)] dX3_chase_7 rfl (by decide) rfl ?_
  refine g_aload_n X dX3_chase_8 1 rfl rfl ?_
  refine g_getr X 0 (by omega) 0 (by decide) ku_X3 kv_X3 kf_X3_10 rfl lC_o_pipes dX3_chase_9 ?_
  refine g_mcallVv X 1 (c_X0_clearCrickets l D cy ad ρ 1 (Or.inl rfl)) kl_X3_148 ⟨rfl, rfl, Nat.le_of_ble_eq_true rfl, Nat.le_of_ble_eq_true rfl⟩ (by omega) (lC_P (Or.inl rfl)) kv_X0 rfl rfl (Nat.le_of_ble_eq_true rfl) dX3_chase_12 ⟨Nat.le_of_ble_eq_true rfl, Nat.le_of_ble_eq_true rfl⟩ (fun ρ_4 h_6 => ?_)
  refine g_iload_n X dX3_chase_15 0 rfl rfl ?_
  exact g_iret X hr hlk (by omega) (by omega) dX3_chase_16 (by subst_vars; exact ⟨rfl, rfl⟩)

set_option maxHeartbeats 1000000 in
set_option maxRecDepth 100000 in
theorem c_X3_pipe (l : Launch) (hl0 : l.stackTraces = false) (D : va_G) (cy : Nat → ClassId) (ad : Nat → Nat) (ρ : Nat → Nat → Int32) (N T S d : Nat) (hI : Inv ρ N T S d) (x y : Int32) : gXI l yX3_pipe cX3_pipe 3 (some .int) { frames := 7, cells := 3, slots := 18, locals := 110 } D cy 48 ad (cC ad cy) [.ref (ad 0), .int x, .int y] ρ (fun r ρ1 => pipF ρ x y = (0, r, ρ1)) (xq1 "java/lang/IndexOutOfBoundsException" (pipF ρ x y).1) 3 18 := by
  refine gXI_of (ls := [(0, .ref (ad 0)), (1, .int x), (2, .int y)]) RX3 rfl (by decide +kernel) (Nat.le_of_ble_eq_true rfl) rfl ?_
  intro p e s m args below meth c A X hE hxt hr hlk
  obtain ⟨hT, hT6, hS, hS8, hd, hdN, hN, hTu, hSt, hPi, hZ⟩ := id hI
  have hwd : wdF ρ = nI (d % 7) := by unfold wdF; rw [hd, nI_clamp (by omega)]
  refine g_iload_n X dX3_pipe_0 1 rfl rfl ?_
  refine g_xcallSv X hE (c_X3_checkPipe l hl0 D cy ad ρ _) kl_X3_55 ⟨rfl, rfl, Nat.le_of_ble_eq_true rfl, Nat.le_of_ble_eq_true rfl⟩ rfl rfl (Nat.le_of_ble_eq_true rfl) dX3_pipe_1 ⟨Nat.le_of_ble_eq_true rfl, Nat.le_of_ble_eq_true rfl⟩ (g_out hxt hlk (fun E h => ⟨h.1, by unfold pipF; rw [if_neg h.2]⟩) (by omega) (by omega)) (fun ρ_1 h_3 => ?_)
  obtain ⟨e9, ib9⟩ := h_3
  rw [e9]
  obtain ⟨i, hi, rfl⟩ := inb_N (T := 12) rfl (by omega) ib9
  have ibi := ib9
  have exi : ix (nI i) = i := nI_clamp (by omega)
  refine g_iload_n X dX3_pipe_4 2 rfl rfl ?_
  refine g_if_lt X 13 dX3_pipe_5 (by decide) (fun c_4 => ?_) (fun c_4 => ?_)
  · skip
    have cA := c_4
    exact g_throw X hE hl0 (names := ["java/lang/RuntimeException", "java/lang/Exception"]) (by decide +kernel) (by decide +kernel) kk_X3_67 ki_IOB kst_151 kh_IOB_71 kh_IOB_71g dX3_pipe_13 dX3_pipe_16 dX3_pipe_17 dX3_pipe_19 dX3_pipe_22 hxt ⟨Nat.le_of_ble_eq_true rfl, Nat.le_of_ble_eq_true rfl, Nat.le_of_ble_eq_true rfl, Nat.le_of_ble_eq_true rfl⟩ hlk (⟨rfl, by unfold pipF; rw [if_pos ibi, if_neg (fun q => q.1 cA)]⟩) (by omega) (by omega)
  · skip
    have cA := c_4
    refine g_iload_n X dX3_pipe_8 2 rfl rfl ?_
    refine g_iconst X (v := 5) dX3_pipe_9 (by decide) ?_
    refine g_icmp_lt X 23 dX3_pipe_10 (by decide) (fun c_5 => ?_) (fun c_5 => ?_)
    · skip
      have ibw : inb y 5 := ⟨cA, c_5⟩
      obtain ⟨k, hk, rfl⟩ := inb_N (T := 5) rfl (by omega) ibw
      have exk : ix (nI k) = k := nI_clamp (by omega)
      refine g_aload_n X dX3_pipe_23 0 rfl rfl ?_
      refine g_getr X 0 (by omega) 0 (by decide) ku_X3 kv_X3 kf_X3_10 rfl lC_o_pipes dX3_pipe_24 ?_
      refine g_iload_n X dX3_pipe_27 1 rfl rfl ?_
      refine g_iload_n X dX3_pipe_28 2 rfl rfl ?_
      refine g_mcallVi X 1 (c_X0_tell l D cy ad ρ 1 i k (Or.inl rfl) (by omega) (by omega)) kl_X3_153 ⟨rfl, rfl, Nat.le_of_ble_eq_true rfl, Nat.le_of_ble_eq_true rfl⟩ (by omega) (lC_P (Or.inl rfl)) kv_X0 rfl rfl (Nat.le_of_ble_eq_true rfl) dX3_pipe_29 ⟨Nat.le_of_ble_eq_true rfl, Nat.le_of_ble_eq_true rfl⟩ (fun r_7 ρ_6 h_8 => ?_)
      obtain ⟨er_7, e9⟩ := h_8
      rw [e9, er_7]
      clear e9
      exact g_xiret X hr hlk (by omega) (by omega) dX3_pipe_32 (by unfold pipF; rw [if_pos ibi, if_pos ibw, exi, exk])
    · skip
      have cB := c_5
      exact g_throw X hE hl0 (names := ["java/lang/RuntimeException", "java/lang/Exception"]) (by decide +kernel) (by decide +kernel) kk_X3_67 ki_IOB kst_151 kh_IOB_71 kh_IOB_71g dX3_pipe_13 dX3_pipe_16 dX3_pipe_17 dX3_pipe_19 dX3_pipe_22 hxt ⟨Nat.le_of_ble_eq_true rfl, Nat.le_of_ble_eq_true rfl, Nat.le_of_ble_eq_true rfl, Nat.le_of_ble_eq_true rfl⟩ hlk (⟨rfl, by unfold pipF; rw [if_pos ibi, if_neg (fun q => cB q.2)]⟩) (by omega) (by omega)

set_option maxHeartbeats 1000000 in
set_option maxRecDepth 100000 in
theorem c_X3_sound (l : Launch) (hl0 : l.stackTraces = false) (D : va_G) (cy : Nat → ClassId) (ad : Nat → Nat) (ρ : Nat → Nat → Int32) (N T S d : Nat) (hI : Inv ρ N T S d) (x : Int32) : gXI l yX3_sound cX3_sound 2 (some .int) { frames := 7, cells := 3, slots := 18, locals := 111 } D cy 48 ad (cC ad cy) [.ref (ad 0), .int x] ρ (fun r ρ1 => souF ρ x = (0, r, ρ1)) (xq1 "java/lang/IndexOutOfBoundsException" (souF ρ x).1) 3 18 := by
  refine gXI_of (ls := [(0, .ref (ad 0)), (1, .int x)]) RX3 rfl (by decide +kernel) (Nat.le_of_ble_eq_true rfl) rfl ?_
  intro p e s m args below meth c A X hE hxt hr hlk
  obtain ⟨hT, hT6, hS, hS8, hd, hdN, hN, hTu, hSt, hPi, hZ⟩ := id hI
  have hwd : wdF ρ = nI (d % 7) := by unfold wdF; rw [hd, nI_clamp (by omega)]
  refine g_aload_n X dX3_sound_0 0 rfl rfl ?_
  refine g_iload_n X dX3_sound_1 1 rfl rfl ?_
  refine g_xcallVv X hE 0 (c_X3_checkTune l hl0 D cy ad ρ _) kl_X3_51 ⟨rfl, rfl, Nat.le_of_ble_eq_true rfl, Nat.le_of_ble_eq_true rfl⟩ (by omega) lC_O kv_X3 rfl rfl (Nat.le_of_ble_eq_true rfl) dX3_sound_2 ⟨Nat.le_of_ble_eq_true rfl, Nat.le_of_ble_eq_true rfl⟩ (g_out hxt hlk (fun E h => ⟨h.1, by unfold souF; rw [if_neg h.2]⟩) (by omega) (by omega)) (fun ρ_1 h_3 => ?_)
  obtain ⟨e9, ib9⟩ := h_3
  rw [e9]
  obtain ⟨t, ht, rfl⟩ := inb_N hT (by omega) ib9
  have ibt := ib9
  have ext : ix (nI t) = t := nI_clamp (by omega)
  refine g_aload_n X dX3_sound_5 0 rfl rfl ?_
  refine g_getr X 0 (by omega) 2 (by decide) ku_X3 kv_X3 kf_X3_21 rfl lC_o_tunes dX3_sound_6 ?_
  refine g_iload_n X dX3_sound_9 1 rfl rfl ?_
  refine g_aaldN X 11 t 2 (by omega) lC_tunes rfl (by omega) (by decide) dX3_sound_10 ?_
  refine g_aload_n X dX3_sound_11 0 rfl rfl ?_
  refine g_getr X 0 (by omega) 0 (by decide) ku_X3 kv_X3 kf_X3_10 rfl lC_o_pipes dX3_sound_12 ?_
  refine g_mcallVi X (14 + 3 * t) (c_X2_soundOf l D cy ad ρ t 1 (by omega) (Or.inl rfl)) kl_X3_156 ⟨rfl, rfl, Nat.le_of_ble_eq_true rfl, Nat.le_of_ble_eq_true rfl⟩ (by omega) (lC_T (by omega)) kv_X2 rfl rfl (Nat.le_of_ble_eq_true rfl) dX3_sound_15 ⟨Nat.le_of_ble_eq_true rfl, Nat.le_of_ble_eq_true rfl⟩ (fun r_5 ρ_4 h_6 => ?_)
  obtain ⟨er_5, e9⟩ := h_6
  rw [e9, er_5]
  clear e9
  exact g_xiret X hr hlk (by omega) (by omega) dX3_sound_18 (by unfold souF; rw [if_pos ibt, ext])

set_option maxHeartbeats 1000000 in
set_option maxRecDepth 100000 in
theorem c_X3_told (l : Launch) (hl0 : l.stackTraces = false) (D : va_G) (cy : Nat → ClassId) (ad : Nat → Nat) (ρ : Nat → Nat → Int32) (N T S d : Nat) (hI : Inv ρ N T S d) (x y : Int32) : gXI l yX3_told cX3_told 3 (some .int) { frames := 7, cells := 3, slots := 18, locals := 111 } D cy 48 ad (cC ad cy) [.ref (ad 0), .int x, .int y] ρ (fun r ρ1 => tolF ρ x y = (0, r, ρ1)) (xq1 "java/lang/IndexOutOfBoundsException" (tolF ρ x y).1) 3 18 := by
  refine gXI_of (ls := [(0, .ref (ad 0)), (1, .int x), (2, .int y)]) RX3 rfl (by decide +kernel) (Nat.le_of_ble_eq_true rfl) rfl ?_
  intro p e s m args below meth c A X hE hxt hr hlk
  obtain ⟨hT, hT6, hS, hS8, hd, hdN, hN, hTu, hSt, hPi, hZ⟩ := id hI
  have hwd : wdF ρ = nI (d % 7) := by unfold wdF; rw [hd, nI_clamp (by omega)]
  refine g_aload_n X dX3_told_0 0 rfl rfl ?_
  refine g_iload_n X dX3_told_1 1 rfl rfl ?_
  refine g_xcallVv X hE 0 (c_X3_checkStreet l hl0 D cy ad ρ _) kl_X3_94 ⟨rfl, rfl, Nat.le_of_ble_eq_true rfl, Nat.le_of_ble_eq_true rfl⟩ (by omega) lC_O kv_X3 rfl rfl (Nat.le_of_ble_eq_true rfl) dX3_told_2 ⟨Nat.le_of_ble_eq_true rfl, Nat.le_of_ble_eq_true rfl⟩ (g_out hxt hlk (fun E h => ⟨h.1, by unfold tolF; rw [if_neg h.2]⟩) (by omega) (by omega)) (fun ρ_1 h_3 => ?_)
  obtain ⟨e9, ib9⟩ := h_3
  rw [e9]
  obtain ⟨z, hz, rfl⟩ := inb_N hS (by omega) ib9
  have ibz := ib9
  have exz : ix (nI z) = z := nI_clamp (by omega)
  refine g_iload_n X dX3_told_5 2 rfl rfl ?_
  refine g_if_lt X 14 dX3_told_6 (by decide) (fun c_4 => ?_) (fun c_4 => ?_)
  · skip
    have cA := c_4
    exact g_throw X hE hl0 (names := ["java/lang/RuntimeException", "java/lang/Exception"]) (by decide +kernel) (by decide +kernel) kk_X3_67 ki_IOB kst_151 kh_IOB_71 kh_IOB_71g dX3_told_14 dX3_told_17 dX3_told_18 dX3_told_20 dX3_told_23 hxt ⟨Nat.le_of_ble_eq_true rfl, Nat.le_of_ble_eq_true rfl, Nat.le_of_ble_eq_true rfl, Nat.le_of_ble_eq_true rfl⟩ hlk (⟨rfl, by unfold tolF; rw [if_pos ibz, if_neg (fun q => q.1 cA)]⟩) (by omega) (by omega)
  · skip
    have cA := c_4
    refine g_iload_n X dX3_told_9 2 rfl rfl ?_
    refine g_iconst X (v := 5) dX3_told_10 (by decide) ?_
    refine g_icmp_lt X 24 dX3_told_11 (by decide) (fun c_5 => ?_) (fun c_5 => ?_)
    · skip
      have ibw : inb y 5 := ⟨cA, c_5⟩
      obtain ⟨k, hk, rfl⟩ := inb_N (T := 5) rfl (by omega) ibw
      have exk : ix (nI k) = k := nI_clamp (by omega)
      refine g_aload_n X dX3_told_24 0 rfl rfl ?_
      refine g_getr X 0 (by omega) 3 (by decide) ku_X3 kv_X3 kf_X3_28 rfl lC_o_streets dX3_told_25 ?_
      refine g_iload_n X dX3_told_28 1 rfl rfl ?_
      refine g_aaldN X 12 z 3 (by omega) lC_streets rfl (by omega) (by decide) dX3_told_29 ?_
      refine g_iload_n X dX3_told_30 2 rfl rfl ?_
      refine g_aload_n X dX3_told_31 0 rfl rfl ?_
      refine g_geti X 0 (by omega) 7 (by decide) ku_X3 kv_X3 kf_X3_103 rfl lC_o_day dX3_told_32 ?_
      rw [show ρ 0 7 = nI d from hd]
      refine g_mcallSi X (c_X3_weekdayOf l D cy ad ρ d (by omega)) kl_X3_106 ⟨rfl, rfl, Nat.le_of_ble_eq_true rfl, Nat.le_of_ble_eq_true rfl⟩ rfl rfl (Nat.le_of_ble_eq_true rfl) dX3_told_35 ⟨Nat.le_of_ble_eq_true rfl, Nat.le_of_ble_eq_true rfl⟩ (fun r_7 ρ_6 h_8 => ?_)
      obtain ⟨er_7, e9⟩ := h_8
      rw [e9, er_7]
      clear e9
      refine g_mcallVi X (32 + 2 * z) (c_X1_tell l D cy ad ρ z k _ (by omega) (by omega)) kl_X3_160 ⟨rfl, rfl, Nat.le_of_ble_eq_true rfl, Nat.le_of_ble_eq_true rfl⟩ (by omega) (lC_S (by omega)) kv_X1 rfl rfl (Nat.le_of_ble_eq_true rfl) dX3_told_38 ⟨Nat.le_of_ble_eq_true rfl, Nat.le_of_ble_eq_true rfl⟩ (fun r_10 ρ_9 h_11 => ?_)
      obtain ⟨er_10, e9⟩ := h_11
      rw [e9, er_10]
      clear e9
      exact g_xiret X hr hlk (by omega) (by omega) dX3_told_41 (by unfold tolF; rw [if_pos ibz, if_pos ibw, exz, exk, hwd])
    · skip
      have cB := c_5
      exact g_throw X hE hl0 (names := ["java/lang/RuntimeException", "java/lang/Exception"]) (by decide +kernel) (by decide +kernel) kk_X3_67 ki_IOB kst_151 kh_IOB_71 kh_IOB_71g dX3_told_14 dX3_told_17 dX3_told_18 dX3_told_20 dX3_told_23 hxt ⟨Nat.le_of_ble_eq_true rfl, Nat.le_of_ble_eq_true rfl, Nat.le_of_ble_eq_true rfl, Nat.le_of_ble_eq_true rfl⟩ hlk (⟨rfl, by unfold tolF; rw [if_pos ibz, if_neg (fun q => cB q.2)]⟩) (by omega) (by omega)

set_option maxHeartbeats 1000000 in
set_option maxRecDepth 100000 in
theorem c_X3_count (l : Launch) (hl0 : l.stackTraces = false) (D : va_G) (cy : Nat → ClassId) (ad : Nat → Nat) (ρ : Nat → Nat → Int32) (N T S d : Nat) (hI : Inv ρ N T S d) (x : Int32) : gXI l yX3_count cX3_count 2 (some .int) { frames := 6, cells := 3, slots := 18, locals := 90 } D cy 48 ad (cC ad cy) [.ref (ad 0), .int x] ρ (fun r ρ1 => couF ρ x = (0, r, ρ1)) (xq1 "java/lang/IndexOutOfBoundsException" (couF ρ x).1) 3 18 := by
  refine gXI_of (ls := [(0, .ref (ad 0)), (1, .int x)]) RX3 rfl (by decide +kernel) (Nat.le_of_ble_eq_true rfl) rfl ?_
  intro p e s m args below meth c A X hE hxt hr hlk
  obtain ⟨hT, hT6, hS, hS8, hd, hdN, hN, hTu, hSt, hPi, hZ⟩ := id hI
  have hwd : wdF ρ = nI (d % 7) := by unfold wdF; rw [hd, nI_clamp (by omega)]
  refine g_iload_n X dX3_count_0 1 rfl rfl ?_
  refine g_if_lt X 10 dX3_count_1 (by decide) (fun c_1 => ?_) (fun c_1 => ?_)
  · skip
    have cA := c_1
    exact g_throw X hE hl0 (names := ["java/lang/RuntimeException", "java/lang/Exception"]) (by decide +kernel) (by decide +kernel) kk_X3_67 ki_IOB kst_161 kh_IOB_71 kh_IOB_71g dX3_count_10 dX3_count_13 dX3_count_14 dX3_count_16 dX3_count_19 hxt ⟨Nat.le_of_ble_eq_true rfl, Nat.le_of_ble_eq_true rfl, Nat.le_of_ble_eq_true rfl, Nat.le_of_ble_eq_true rfl⟩ hlk (⟨rfl, by unfold couF; rw [if_neg (fun q => q.1 cA)]⟩) (by omega) (by omega)
  · skip
    have cA := c_1
    refine g_iload_n X dX3_count_4 1 rfl rfl ?_
    refine g_bipush X (v := 9) dX3_count_5 (by decide) ?_
    refine g_icmp_lt X 20 dX3_count_7 (by decide) (fun c_2 => ?_) (fun c_2 => ?_)
    · skip
      have ibw : inb x 9 := ⟨cA, c_2⟩
      obtain ⟨k, hk, rfl⟩ := inb_N (T := 9) rfl (by omega) ibw
      have exk : ix (nI k) = k := nI_clamp (by omega)
      refine g_aload_n X dX3_count_20 0 rfl rfl ?_
      refine g_iload_n X dX3_count_21 1 rfl rfl ?_
      refine g_mcallVi X 0 (c_X3_countNow l D cy ad ρ k d (by omega) hd (by omega)) kl_X3_163 ⟨rfl, rfl, Nat.le_of_ble_eq_true rfl, Nat.le_of_ble_eq_true rfl⟩ (by omega) lC_O kv_X3 rfl rfl (Nat.le_of_ble_eq_true rfl) dX3_count_22 ⟨Nat.le_of_ble_eq_true rfl, Nat.le_of_ble_eq_true rfl⟩ (fun r_4 ρ_3 h_5 => ?_)
      obtain ⟨er_4, e9⟩ := h_5
      rw [e9, er_4]
      clear e9
      exact g_xiret X hr hlk (by omega) (by omega) dX3_count_25 (by unfold couF; rw [if_pos ibw, exk])
    · skip
      have cB := c_2
      exact g_throw X hE hl0 (names := ["java/lang/RuntimeException", "java/lang/Exception"]) (by decide +kernel) (by decide +kernel) kk_X3_67 ki_IOB kst_161 kh_IOB_71 kh_IOB_71g dX3_count_10 dX3_count_13 dX3_count_14 dX3_count_16 dX3_count_19 hxt ⟨Nat.le_of_ble_eq_true rfl, Nat.le_of_ble_eq_true rfl, Nat.le_of_ble_eq_true rfl, Nat.le_of_ble_eq_true rfl⟩ hlk (⟨rfl, by unfold couF; rw [if_neg (fun q => cB q.2)]⟩) (by omega) (by omega)

set_option maxHeartbeats 1000000 in
set_option maxRecDepth 100000 in
theorem c_X3_rest (l : Launch) (hl0 : l.stackTraces = false) (D : va_G) (cy : Nat → ClassId) (ad : Nat → Nat) (ρ : Nat → Nat → Int32) (N T S d : Nat) (hI : Inv ρ N T S d) (x : Int32) : gXI l yX3_rest cX3_rest 4 (some .int) { frames := 7, cells := 3, slots := 18, locals := 110 } D cy 48 ad (cC ad cy) [.ref (ad 0), .int x] ρ (fun r ρ1 => resF ρ x = (0, r, ρ1)) (xq1 "java/lang/IllegalArgumentException" (resF ρ x).1) 3 18 := by
  refine gXI_of (ls := [(0, .ref (ad 0)), (1, .int x)]) RX3 rfl (by decide +kernel) (Nat.le_of_ble_eq_true rfl) rfl ?_
  intro p e s m args below meth c A X hE hxt hr hlk
  obtain ⟨hT, hT6, hS, hS8, hd, hdN, hN, hTu, hSt, hPi, hZ⟩ := id hI
  have hwd : wdF ρ = nI (d % 7) := by unfold wdF; rw [hd, nI_clamp (by omega)]
  refine g_iload_n X dX3_rest_0 1 rfl rfl ?_
  refine g_xcallSv X hE (c_X3_checkNights l hl0 D cy ad ρ _) kl_X3_166 ⟨rfl, rfl, Nat.le_of_ble_eq_true rfl, Nat.le_of_ble_eq_true rfl⟩ rfl rfl (Nat.le_of_ble_eq_true rfl) dX3_rest_1 ⟨Nat.le_of_ble_eq_true rfl, Nat.le_of_ble_eq_true rfl⟩ (g_out hxt hlk (fun E h => ⟨h.1, by unfold resF; rw [if_neg h.2]⟩) (by omega) (by omega)) (fun ρ_1 h_3 => ?_)
  obtain ⟨e9, ib9⟩ := h_3
  rw [e9]
  obtain ⟨nn, hnn, rfl⟩ := nig_N ib9
  have ibnn := ib9
  have exnn : ix (nI nn) = nn := nI_clamp (by omega)
  refine g_aload_n X dX3_rest_4 0 rfl rfl ?_
  refine g_aload_n X dX3_rest_5 0 rfl rfl ?_
  refine g_getr X 0 (by omega) 0 (by decide) ku_X3 kv_X3 kf_X3_10 rfl lC_o_pipes dX3_rest_6 ?_
  refine g_iload_n X dX3_rest_9 1 rfl rfl ?_
  refine g_mcallVi X 0 (c_X3_passNights l D cy ad ρ 1 nn d (Or.inl rfl) hd (by omega)) kl_X3_169 ⟨rfl, rfl, Nat.le_of_ble_eq_true rfl, Nat.le_of_ble_eq_true rfl⟩ (by omega) lC_O kv_X3 rfl rfl (Nat.le_of_ble_eq_true rfl) dX3_rest_10 ⟨Nat.le_of_ble_eq_true rfl, Nat.le_of_ble_eq_true rfl⟩ (fun r_5 ρ_4 h_6 => ?_)
  obtain ⟨er9, eρ9⟩ := h_6
  rw [eρ9, er9]
  refine g_istore_n X [(2, .int _), (0, .ref _), (1, .int _)] dX3_rest_13 rfl (by decide) rfl ?_
  refine g_iconst X (v := 0) dX3_rest_14 (by decide) ?_
  refine g_istore_n X [(3, .int _), (2, .int _), (0, .ref _), (1, .int _)] dX3_rest_15 rfl (by decide) rfl ?_
  refine g_ls (ls' := [(0, .ref _), (1, .int _), (2, .int _), (3, .int _)]) [2, 3, 1, 0] rfl ?_
  refine g_loop (fun _ => True) (fun i => fgA (nsR ρ 1 d nn) i) (fun i => [(0, .ref (ad 0)), (1, .int (nI nn)), (2, .int (csF ρ 1 d nn)), (3, .int (nI i))]) (fun _ => ((0 + 1) + 0)) (fun _ => ((0 + 6) + 0)) S 0 trivial (by omega) rfl fgA_0.symm rfl rfl (fun i h0i hi hIi ihi => ?_)
  obtain ⟨ρa, eρa⟩ : ∃ ρz, ρz = fgA (nsR ρ 1 d nn) i := ⟨_, rfl⟩
  rw [← eρa]
  have hSa : ρa 0 6 = nI S := by rw [eρa]; unfold fgA; rw [if_neg (by omega), nsR_out (k := 0) (by omega)]; exact hS
  have hda : ρa 0 7 = nI d := by rw [eρa]; unfold fgA; rw [if_neg (by omega), nsR_out (k := 0) (by omega)]; exact hd
  refine g_iload_n X dX3_rest_16 3 rfl rfl ?_
  refine g_aload_n X dX3_rest_17 0 rfl rfl ?_
  refine g_geti X 0 (by omega) 6 (by decide) ku_X3 kv_X3 kf_X3_83 rfl lC_o_streetCount dX3_rest_18 ?_
  rw [hSa]
  refine g_icmp_geN X i S 39 (by omega) (by omega) dX3_rest_21 (by decide) (fun c_7 => ?_) (fun c_7 => ?_)
  · skip
    refine g_aload_n X dX3_rest_39 0 rfl rfl ?_
    refine g_dup X dX3_rest_40 rfl ?_
    refine g_geti X 0 (by omega) 7 (by decide) ku_X3 kv_X3 kf_X3_103 rfl lC_o_day dX3_rest_41 ?_
    rw [hda]
    refine g_iload_n X dX3_rest_44 1 rfl rfl ?_
    refine g_iadd X dX3_rest_45 ?_
    rw [nI_add]
    refine g_puti X 0 (by omega) 7 (by decide) ku_X3 kv_X3 kf_X3_103 rfl tyX3 tyX3_ok nmX3 rfl (by decide +kernel) lC_o_day dX3_rest_46 (fun ρ_8 eρ_8 => ?_)
    refine g_iload_n X dX3_rest_49 2 rfl rfl ?_
    exact g_xiret X hr hlk (by omega) (by omega) dX3_rest_50 (by subst_vars; unfold resF; rw [if_pos ibnn, exnn]; unfold resR; rw [hd, hS, show ix (nI d) = d from nI_clamp (by omega), show ix (nI S) = S from nI_clamp (by omega), show i = S by omega])
  · skip
    refine g_aload_n X dX3_rest_24 0 rfl rfl ?_
    refine g_getr X 0 (by omega) 3 (by decide) ku_X3 kv_X3 kf_X3_28 rfl lC_o_streets dX3_rest_25 ?_
    refine g_iload_n X dX3_rest_28 3 rfl rfl ?_
    refine g_aaldN X 12 i 3 (by omega) lC_streets rfl (by omega) (by decide) dX3_rest_29 ?_
    refine g_mcallVv X (32 + 2 * i) (c_X1_forgetDay l D cy ad ρa i (by omega)) kl_X3_173 ⟨rfl, rfl, Nat.le_of_ble_eq_true rfl, Nat.le_of_ble_eq_true rfl⟩ (by omega) (lC_S (by omega)) kv_X1 rfl rfl (Nat.le_of_ble_eq_true rfl) dX3_rest_30 ⟨Nat.le_of_ble_eq_true rfl, Nat.le_of_ble_eq_true rfl⟩ (fun ρ_9 h_11 => ?_)
    refine g_iincN X i 3 [(3, .int _), (0, .ref _), (1, .int _), (2, .int _)] 3 dX3_rest_33 rfl (by decide) rfl ?_
    refine g_goto X 16 dX3_rest_36 (by decide) ?_
    refine g_ls (ls' := [(0, .ref _), (1, .int _), (2, .int _), (3, .int _)]) [1, 2, 3, 0] rfl ?_
    exact g_eqv (ihi (by omega) trivial) (rfl) (by subst_vars; funext k j; simp only [fgR, fgA]; grind) rfl rfl

set_option maxHeartbeats 1000000 in
set_option maxRecDepth 100000 in
theorem c_X3_pays (l : Launch) (hl0 : l.stackTraces = false) (D : va_G) (cy : Nat → ClassId) (ad : Nat → Nat) (ρ : Nat → Nat → Int32) (N T S d : Nat) (hI : Inv ρ N T S d) (x y : Int32) : gXI l yX3_pays cX3_pays 3 (some .int) { frames := 7, cells := 3, slots := 18, locals := 111 } D cy 48 ad (cC ad cy) [.ref (ad 0), .int x, .int y] ρ (fun r ρ1 => payF ρ x y = (0, r, ρ1)) (xq1 "java/lang/IndexOutOfBoundsException" (payF ρ x y).1) 3 18 := by
  refine gXI_of (ls := [(0, .ref (ad 0)), (1, .int x), (2, .int y)]) RX3 rfl (by decide +kernel) (Nat.le_of_ble_eq_true rfl) rfl ?_
  intro p e s m args below meth c A X hE hxt hr hlk
  obtain ⟨hT, hT6, hS, hS8, hd, hdN, hN, hTu, hSt, hPi, hZ⟩ := id hI
  have hwd : wdF ρ = nI (d % 7) := by unfold wdF; rw [hd, nI_clamp (by omega)]
  refine g_aload_n X dX3_pays_0 0 rfl rfl ?_
  refine g_iload_n X dX3_pays_1 1 rfl rfl ?_
  refine g_xcallVv X hE 0 (c_X3_checkStreet l hl0 D cy ad ρ _) kl_X3_94 ⟨rfl, rfl, Nat.le_of_ble_eq_true rfl, Nat.le_of_ble_eq_true rfl⟩ (by omega) lC_O kv_X3 rfl rfl (Nat.le_of_ble_eq_true rfl) dX3_pays_2 ⟨Nat.le_of_ble_eq_true rfl, Nat.le_of_ble_eq_true rfl⟩ (g_out hxt hlk (fun E h => ⟨h.1, by unfold payF; rw [if_neg h.2]⟩) (by omega) (by omega)) (fun ρ_1 h_3 => ?_)
  obtain ⟨e9, ib9⟩ := h_3
  rw [e9]
  obtain ⟨z, hz, rfl⟩ := inb_N hS (by omega) ib9
  have ibz := ib9
  have exz : ix (nI z) = z := nI_clamp (by omega)
  refine g_aload_n X dX3_pays_5 0 rfl rfl ?_
  refine g_iload_n X dX3_pays_6 2 rfl rfl ?_
  refine g_xcallVv X hE 0 (c_X3_checkTune l hl0 D cy ad ρ _) kl_X3_51 ⟨rfl, rfl, Nat.le_of_ble_eq_true rfl, Nat.le_of_ble_eq_true rfl⟩ (by omega) lC_O kv_X3 rfl rfl (Nat.le_of_ble_eq_true rfl) dX3_pays_7 ⟨Nat.le_of_ble_eq_true rfl, Nat.le_of_ble_eq_true rfl⟩ (g_out hxt hlk (fun E h => ⟨h.1, by unfold payF; rw [if_pos ibz, if_neg h.2]⟩) (by omega) (by omega)) (fun ρ_4 h_6 => ?_)
  obtain ⟨e9, ib9⟩ := h_6
  rw [e9]
  obtain ⟨t, ht, rfl⟩ := inb_N hT (by omega) ib9
  have ibt := ib9
  have ext : ix (nI t) = t := nI_clamp (by omega)
  refine g_aload_n X dX3_pays_10 0 rfl rfl ?_
  refine g_iload_n X dX3_pays_11 1 rfl rfl ?_
  refine g_iload_n X dX3_pays_12 2 rfl rfl ?_
  refine g_mcallVi X 0 (c_X3_payNow l D cy ad ρ z t (by omega) (by omega) (Inv_pay hI (by omega) (by omega))) kl_X3_117 ⟨rfl, rfl, Nat.le_of_ble_eq_true rfl, Nat.le_of_ble_eq_true rfl⟩ (by omega) lC_O kv_X3 rfl rfl (Nat.le_of_ble_eq_true rfl) dX3_pays_13 ⟨Nat.le_of_ble_eq_true rfl, Nat.le_of_ble_eq_true rfl⟩ (fun r_8 ρ_7 h_9 => ?_)
  obtain ⟨er_8, e9⟩ := h_9
  rw [e9, er_8]
  clear e9
  exact g_xiret X hr hlk (by omega) (by omega) dX3_pays_16 (by unfold payF; rw [if_pos ibz, if_pos ibt, exz, ext])

set_option maxHeartbeats 1000000 in
set_option maxRecDepth 100000 in
theorem c_X3_best (l : Launch) (hl0 : l.stackTraces = false) (D : va_G) (cy : Nat → ClassId) (ad : Nat → Nat) (ρ : Nat → Nat → Int32) (N T S d : Nat) (hI : Inv ρ N T S d) (x : Int32) : gXI l yX3_best cX3_best 6 (some .int) { frames := 7, cells := 3, slots := 18, locals := 111 } D cy 48 ad (cC ad cy) [.ref (ad 0), .int x] ρ (fun r ρ1 => besF ρ x = (0, r, ρ1)) (xq1 "java/lang/IndexOutOfBoundsException" (besF ρ x).1) 3 18 := by
  refine gXI_of (ls := [(0, .ref (ad 0)), (1, .int x)]) RX3 rfl (by decide +kernel) (Nat.le_of_ble_eq_true rfl) rfl ?_
  intro p e s m args below meth c A X hE hxt hr hlk
  obtain ⟨hT, hT6, hS, hS8, hd, hdN, hN, hTu, hSt, hPi, hZ⟩ := id hI
  have hwd : wdF ρ = nI (d % 7) := by unfold wdF; rw [hd, nI_clamp (by omega)]
  refine g_aload_n X dX3_best_0 0 rfl rfl ?_
  refine g_iload_n X dX3_best_1 1 rfl rfl ?_
  refine g_xcallVv X hE 0 (c_X3_checkStreet l hl0 D cy ad ρ _) kl_X3_94 ⟨rfl, rfl, Nat.le_of_ble_eq_true rfl, Nat.le_of_ble_eq_true rfl⟩ (by omega) lC_O kv_X3 rfl rfl (Nat.le_of_ble_eq_true rfl) dX3_best_2 ⟨Nat.le_of_ble_eq_true rfl, Nat.le_of_ble_eq_true rfl⟩ (g_out hxt hlk (fun E h => ⟨h.1, by unfold besF; rw [if_neg h.2]⟩) (by omega) (by omega)) (fun ρ_1 h_3 => ?_)
  obtain ⟨e9, ib9⟩ := h_3
  rw [e9]
  obtain ⟨z, hz, rfl⟩ := inb_N hS (by omega) ib9
  have ibz := ib9
  have exz : ix (nI z) = z := nI_clamp (by omega)
  refine g_iconst X (v := -1) dX3_best_5 (by decide) ?_
  refine g_istore_n X [(2, .int _), (0, .ref _), (1, .int _)] dX3_best_6 rfl (by decide) rfl ?_
  refine g_iconst X (v := 0) dX3_best_7 (by decide) ?_
  refine g_istore_n X [(3, .int _), (2, .int _), (0, .ref _), (1, .int _)] dX3_best_8 rfl (by decide) rfl ?_
  refine g_iconst X (v := 0) dX3_best_9 (by decide) ?_
  refine g_istore X [(4, .int _), (3, .int _), (2, .int _), (0, .ref _), (1, .int _)] dX3_best_10 (by decide) rfl ?_
  refine g_ls (ls' := [(0, .ref _), (1, .int _), (2, .int _), (3, .int _), (4, .int _)]) [3, 4, 2, 1, 0] rfl ?_
  refine g_loop (fun _ => True) (fun _ => ρ) (fun i => [(0, .ref (ad 0)), (1, .int (nI z)), (2, .int (bsP ρ z i).2), (3, .int (bsP ρ z i).1), (4, .int (nI i))]) (fun _ => (0 + 1)) (fun _ => (0 + 6)) T 0 trivial (by omega) rfl rfl rfl rfl (fun i h0i hi hIi ihi => ?_)
  refine g_iload X dX3_best_12 4 rfl ?_
  refine g_aload_n X dX3_best_14 0 rfl rfl ?_
  refine g_geti X 0 (by omega) 5 (by decide) ku_X3 kv_X3 kf_X3_41 rfl lC_o_tuneCount dX3_best_15 ?_
  rw [show ρ 0 5 = nI T from hT]
  refine g_icmp_geN X i T 48 (by omega) (by omega) dX3_best_18 (by decide) (fun c_4 => ?_) (fun c_4 => ?_)
  · skip
    refine g_iload_n X dX3_best_48 2 rfl rfl ?_
    exact g_xiret X hr hlk (by omega) (by omega) dX3_best_49 (by unfold besF; rw [if_pos ibz, exz, hT, show ix (nI T) = i by rw [show i = T by omega]; exact nI_clamp (by omega)])
  · skip
    refine g_aload_n X dX3_best_21 0 rfl rfl ?_
    refine g_iload_n X dX3_best_22 1 rfl rfl ?_
    refine g_iload X dX3_best_23 4 rfl ?_
    refine g_mcallVi X 0 (c_X3_payNow l D cy ad ρ z i (by omega) (by omega) (Inv_pay hI (by omega) (by omega))) kl_X3_117 ⟨rfl, rfl, Nat.le_of_ble_eq_true rfl, Nat.le_of_ble_eq_true rfl⟩ (by omega) lC_O kv_X3 rfl rfl (Nat.le_of_ble_eq_true rfl) dX3_best_25 ⟨Nat.le_of_ble_eq_true rfl, Nat.le_of_ble_eq_true rfl⟩ (fun r_6 ρ_5 h_7 => ?_)
    obtain ⟨er_6, e9⟩ := h_7
    rw [e9, er_6]
    clear e9
    refine g_istore X [(5, .int _), (0, .ref _), (1, .int _), (2, .int _), (3, .int _), (4, .int _)] dX3_best_28 (by decide) rfl ?_
    refine g_iload X dX3_best_30 0 rfl ?_
    refine g_iload_n X dX3_best_32 4 rfl rfl ?_
    refine g_icmp_le X 42 dX3_best_33 (by decide) (fun c_8 => ?_) (fun c_8 => ?_)
    · skip
      have cQ := c_8
      refine g_iincN X i 4 [(4, .int _), (5, .int _), (0, .ref _), (1, .int _), (2, .int _), (3, .int _)] 5 dX3_best_42 rfl (by decide) rfl ?_
      refine g_goto X 12 dX3_best_45 (by decide) ?_
      refine g_ls (ls' := [(0, .ref _), (1, .int _), (2, .int _), (3, .int _), (4, .int _)]) [2, 3, 4, 5, 0] rfl ?_
      exact g_eqv (ihi (by omega) trivial) (by simp only [bsP]; first | rw [if_pos cQ] | rw [if_neg cQ]) (rfl) rfl rfl
    · skip
      have cQ := c_8
      refine g_iload X dX3_best_36 0 rfl ?_
      refine g_istore_n X [(3, .int _), (5, .int _), (0, .ref _), (1, .int _), (2, .int _), (4, .int _)] dX3_best_38 rfl (by decide) rfl ?_
      refine g_iload X dX3_best_39 5 rfl ?_
      refine g_istore_n X [(2, .int _), (3, .int _), (5, .int _), (0, .ref _), (1, .int _), (4, .int _)] dX3_best_41 rfl (by decide) rfl ?_
      refine g_iincN X i 4 [(4, .int _), (2, .int _), (3, .int _), (5, .int _), (0, .ref _), (1, .int _)] 5 dX3_best_42 rfl (by decide) rfl ?_
      refine g_goto X 12 dX3_best_45 (by decide) ?_
      refine g_ls (ls' := [(0, .ref _), (1, .int _), (2, .int _), (3, .int _), (4, .int _)]) [4, 5, 1, 2, 0] rfl ?_
      exact g_eqv (ihi (by omega) trivial) (by simp only [bsP]; first | rw [if_pos cQ] | rw [if_neg cQ]) (rfl) rfl rfl

set_option maxHeartbeats 1000000 in
set_option maxRecDepth 100000 in
theorem c_X3_worst (l : Launch) (hl0 : l.stackTraces = false) (D : va_G) (cy : Nat → ClassId) (ad : Nat → Nat) (ρ : Nat → Nat → Int32) (N T S d : Nat) (hI : Inv ρ N T S d) (x : Int32) : gXI l yX3_worst cX3_worst 6 (some .int) { frames := 7, cells := 3, slots := 18, locals := 111 } D cy 48 ad (cC ad cy) [.ref (ad 0), .int x] ρ (fun r ρ1 => worF ρ x = (0, r, ρ1)) (xq1 "java/lang/IndexOutOfBoundsException" (worF ρ x).1) 3 18 := by
  refine gXI_of (ls := [(0, .ref (ad 0)), (1, .int x)]) RX3 rfl (by decide +kernel) (Nat.le_of_ble_eq_true rfl) rfl ?_
  intro p e s m args below meth c A X hE hxt hr hlk
  obtain ⟨hT, hT6, hS, hS8, hd, hdN, hN, hTu, hSt, hPi, hZ⟩ := id hI
  have hwd : wdF ρ = nI (d % 7) := by unfold wdF; rw [hd, nI_clamp (by omega)]
  refine g_aload_n X dX3_worst_0 0 rfl rfl ?_
  refine g_iload_n X dX3_worst_1 1 rfl rfl ?_
  refine g_xcallVv X hE 0 (c_X3_checkTune l hl0 D cy ad ρ _) kl_X3_51 ⟨rfl, rfl, Nat.le_of_ble_eq_true rfl, Nat.le_of_ble_eq_true rfl⟩ (by omega) lC_O kv_X3 rfl rfl (Nat.le_of_ble_eq_true rfl) dX3_worst_2 ⟨Nat.le_of_ble_eq_true rfl, Nat.le_of_ble_eq_true rfl⟩ (g_out hxt hlk (fun E h => ⟨h.1, by unfold worF; rw [if_neg h.2]⟩) (by omega) (by omega)) (fun ρ_1 h_3 => ?_)
  obtain ⟨e9, ib9⟩ := h_3
  rw [e9]
  obtain ⟨t, ht, rfl⟩ := inb_N hT (by omega) ib9
  have ibt := ib9
  have ext : ix (nI t) = t := nI_clamp (by omega)
  refine g_iconst X (v := -1) dX3_worst_5 (by decide) ?_
  refine g_istore_n X [(2, .int _), (0, .ref _), (1, .int _)] dX3_worst_6 rfl (by decide) rfl ?_
  refine g_aload_n X dX3_worst_7 1 rfl rfl ?_
  refine g_getr X 0 (by omega) 2 (by decide) ku_X3 kv_X3 kf_X3_21 rfl lC_o_tunes dX3_worst_8 ?_
  refine g_iload_n X dX3_worst_11 2 rfl rfl ?_
  refine g_aaldN X 11 t 2 (by omega) lC_tunes rfl (by omega) (by decide) dX3_worst_12 ?_
  refine g_aload_n X dX3_worst_13 1 rfl rfl ?_
  refine g_getr X 0 (by omega) 0 (by decide) ku_X3 kv_X3 kf_X3_10 rfl lC_o_pipes dX3_worst_14 ?_
  refine g_mcallVi X (14 + 3 * t) (c_X2_soundOf l D cy ad ρ t 1 (by omega) (Or.inl rfl)) kl_X3_156 ⟨rfl, rfl, Nat.le_of_ble_eq_true rfl, Nat.le_of_ble_eq_true rfl⟩ (by omega) (lC_T (by omega)) kv_X2 rfl rfl (Nat.le_of_ble_eq_true rfl) dX3_worst_17 ⟨Nat.le_of_ble_eq_true rfl, Nat.le_of_ble_eq_true rfl⟩ (fun r_5 ρ_4 h_6 => ?_)
  obtain ⟨er_5, e9⟩ := h_6
  rw [e9, er_5]
  clear e9
  refine g_istore_n X [(3, .int _), (2, .int _), (0, .ref _), (1, .int _)] dX3_worst_20 rfl (by decide) rfl ?_
  refine g_iconst X (v := 0) dX3_worst_21 (by decide) ?_
  refine g_istore X [(4, .int _), (3, .int _), (2, .int _), (0, .ref _), (1, .int _)] dX3_worst_22 (by decide) rfl ?_
  refine g_ls (ls' := [(0, .ref _), (1, .int _), (2, .int _), (3, .int _), (4, .int _)]) [3, 4, 2, 1, 0] rfl ?_
  refine g_loop (fun _ => True) (fun _ => ρ) (fun i => [(0, .ref (ad 0)), (1, .int (nI t)), (2, .int (wsP ρ t i).2), (3, .int (wsP ρ t i).1), (4, .int (nI i))]) (fun _ => ((0 + 1) + 0)) (fun _ => ((0 + 6) + 0)) 12 0 trivial (by omega) rfl rfl rfl rfl (fun i h0i hi hIi ihi => ?_)
  refine g_iload X dX3_worst_24 4 rfl ?_
  refine g_bipush X (v := 12) dX3_worst_26 (by decide) ?_
  refine g_icmp_geN X i 12 66 (by omega) (by omega) dX3_worst_28 (by decide) (fun c_7 => ?_) (fun c_7 => ?_)
  · skip
    refine g_iload_n X dX3_worst_66 2 rfl rfl ?_
    exact g_xiret X hr hlk (by omega) (by omega) dX3_worst_67 (by unfold worF; rw [if_pos ibt, ext, show i = 12 by omega])
  · skip
    refine g_aload_n X dX3_worst_31 0 rfl rfl ?_
    refine g_getr X 0 (by omega) 2 (by decide) ku_X3 kv_X3 kf_X3_21 rfl lC_o_tunes dX3_worst_32 ?_
    refine g_iload_n X dX3_worst_35 1 rfl rfl ?_
    refine g_aaldN X 11 t 2 (by omega) lC_tunes rfl (by omega) (by decide) dX3_worst_36 ?_
    refine g_aload_n X dX3_worst_37 0 rfl rfl ?_
    refine g_getr X 0 (by omega) 0 (by decide) ku_X3 kv_X3 kf_X3_10 rfl lC_o_pipes dX3_worst_38 ?_
    refine g_iload X dX3_worst_41 4 rfl ?_
    refine g_mcallVi X (14 + 3 * t) (c_X2_soundSparing l D cy ad ρ t 1 _ (by omega) (Or.inl rfl)) kl_X3_176 ⟨rfl, rfl, Nat.le_of_ble_eq_true rfl, Nat.le_of_ble_eq_true rfl⟩ (by omega) (lC_T (by omega)) kv_X2 rfl rfl (Nat.le_of_ble_eq_true rfl) dX3_worst_43 ⟨Nat.le_of_ble_eq_true rfl, Nat.le_of_ble_eq_true rfl⟩ (fun r_9 ρ_8 h_10 => ?_)
    obtain ⟨er_9, e9⟩ := h_10
    rw [e9, er_9]
    clear e9
    refine g_istore X [(5, .int _), (0, .ref _), (1, .int _), (2, .int _), (3, .int _), (4, .int _)] dX3_worst_46 (by decide) rfl ?_
    refine g_iload X dX3_worst_48 0 rfl ?_
    refine g_iload_n X dX3_worst_50 4 rfl rfl ?_
    refine g_icmp_le X 60 dX3_worst_51 (by decide) (fun c_11 => ?_) (fun c_11 => ?_)
    · skip
      have cQ := c_11
      refine g_iincN X i 4 [(4, .int _), (5, .int _), (0, .ref _), (1, .int _), (2, .int _), (3, .int _)] 5 dX3_worst_60 rfl (by decide) rfl ?_
      refine g_goto X 24 dX3_worst_63 (by decide) ?_
      refine g_ls (ls' := [(0, .ref _), (1, .int _), (2, .int _), (3, .int _), (4, .int _)]) [2, 3, 4, 5, 0] rfl ?_
      exact g_eqv (ihi (by omega) trivial) (by simp only [wsP]; first | rw [if_pos cQ] | rw [if_neg cQ]) (rfl) rfl rfl
    · skip
      have cQ := c_11
      refine g_iload X dX3_worst_54 0 rfl ?_
      refine g_istore_n X [(3, .int _), (5, .int _), (0, .ref _), (1, .int _), (2, .int _), (4, .int _)] dX3_worst_56 rfl (by decide) rfl ?_
      refine g_iload X dX3_worst_57 5 rfl ?_
      refine g_istore_n X [(2, .int _), (3, .int _), (5, .int _), (0, .ref _), (1, .int _), (4, .int _)] dX3_worst_59 rfl (by decide) rfl ?_
      refine g_iincN X i 4 [(4, .int _), (2, .int _), (3, .int _), (5, .int _), (0, .ref _), (1, .int _)] 5 dX3_worst_60 rfl (by decide) rfl ?_
      refine g_goto X 24 dX3_worst_63 (by decide) ?_
      refine g_ls (ls' := [(0, .ref _), (1, .int _), (2, .int _), (3, .int _), (4, .int _)]) [4, 5, 1, 2, 0] rfl ?_
      exact g_eqv (ihi (by omega) trivial) (by simp only [wsP]; first | rw [if_pos cQ] | rw [if_neg cQ]) (rfl) rfl rfl

set_option maxHeartbeats 1000000 in
set_option maxRecDepth 100000 in
theorem c_X3_foresee (l : Launch) (hl0 : l.stackTraces = false) (D : va_G) (cy : Nat → ClassId) (ad : Nat → Nat) (ρ : Nat → Nat → Int32) (N T S d : Nat) (hI : Inv ρ N T S d) (x y : Int32) : gXI l yX3_foresee cX3_foresee 3 (some .int) { frames := 7, cells := 3, slots := 18, locals := 110 } D cy 48 ad (cC ad cy) [.ref (ad 0), .int x, .int y] ρ (fun r ρ1 => forF ρ x y = (0, r, ρ1)) (xq2 "java/lang/IllegalArgumentException" "java/lang/IndexOutOfBoundsException" (forF ρ x y).1) 3 18 := by
  refine gXI_of (ls := [(0, .ref (ad 0)), (1, .int x), (2, .int y)]) RX3 rfl (by decide +kernel) (Nat.le_of_ble_eq_true rfl) rfl ?_
  intro p e s m args below meth c A X hE hxt hr hlk
  obtain ⟨hT, hT6, hS, hS8, hd, hdN, hN, hTu, hSt, hPi, hZ⟩ := id hI
  have hwd : wdF ρ = nI (d % 7) := by unfold wdF; rw [hd, nI_clamp (by omega)]
  refine g_iload_n X dX3_foresee_0 1 rfl rfl ?_
  refine g_xcallSv X hE (c_X3_checkNights l hl0 D cy ad ρ _) kl_X3_166 ⟨rfl, rfl, Nat.le_of_ble_eq_true rfl, Nat.le_of_ble_eq_true rfl⟩ rfl rfl (Nat.le_of_ble_eq_true rfl) dX3_foresee_1 ⟨Nat.le_of_ble_eq_true rfl, Nat.le_of_ble_eq_true rfl⟩ (g_out hxt hlk (fun E h => Or.inl ⟨h.1, by unfold forF; rw [if_neg h.2]⟩) (by omega) (by omega)) (fun ρ_1 h_3 => ?_)
  obtain ⟨e9, ib9⟩ := h_3
  rw [e9]
  obtain ⟨nn, hnn, rfl⟩ := nig_N ib9
  have ibnn := ib9
  have exnn : ix (nI nn) = nn := nI_clamp (by omega)
  refine g_iload_n X dX3_foresee_4 2 rfl rfl ?_
  refine g_iconst X (v := 5) dX3_foresee_5 (by decide) ?_
  refine g_icmp_lt X 15 dX3_foresee_6 (by decide) (fun c_4 => ?_) (fun c_4 => ?_)
  · skip
    have cA := c_4
    exact g_throw X hE hl0 (names := ["java/lang/RuntimeException", "java/lang/Exception"]) (by decide +kernel) (by decide +kernel) kk_X3_67 ki_IOB kst_179 kh_IOB_71 kh_IOB_71g dX3_foresee_15 dX3_foresee_18 dX3_foresee_19 dX3_foresee_21 dX3_foresee_24 hxt ⟨Nat.le_of_ble_eq_true rfl, Nat.le_of_ble_eq_true rfl, Nat.le_of_ble_eq_true rfl, Nat.le_of_ble_eq_true rfl⟩ hlk (Or.inr ⟨rfl, by unfold forF; rw [if_pos ibnn, if_neg (fun q => q.1 cA)]⟩) (by omega) (by omega)
  · skip
    have cA := c_4
    refine g_iload_n X dX3_foresee_9 2 rfl rfl ?_
    refine g_bipush X (v := 7) dX3_foresee_10 (by decide) ?_
    refine g_icmp_le X 25 dX3_foresee_12 (by decide) (fun c_5 => ?_) (fun c_5 => ?_)
    · skip
      have ibw : ¬ y < 5 ∧ y ≤ 7 := ⟨cA, c_5⟩
      obtain ⟨k, hk, rfl⟩ := fs_N ibw
      have exk : ix (nI k) = k := nI_clamp (by omega)
      refine g_aload_n X dX3_foresee_25 0 rfl rfl ?_
      refine g_getr X 0 (by omega) 1 (by decide) ku_X3 kv_X3 kf_X3_16 rfl lC_o_trial dX3_foresee_26 ?_
      refine g_aload_n X dX3_foresee_29 0 rfl rfl ?_
      refine g_getr X 0 (by omega) 0 (by decide) ku_X3 kv_X3 kf_X3_10 rfl lC_o_pipes dX3_foresee_30 ?_
      refine g_mcallVv X 6 (c_X0_become l D cy ad ρ (fun j hj => (hPi j hj).2.2)) kl_X3_181 ⟨rfl, rfl, Nat.le_of_ble_eq_true rfl, Nat.le_of_ble_eq_true rfl⟩ (by omega) (lC_P (Or.inr rfl)) kv_X0 rfl rfl (Nat.le_of_ble_eq_true rfl) dX3_foresee_33 ⟨Nat.le_of_ble_eq_true rfl, Nat.le_of_ble_eq_true rfl⟩ (fun ρ_6 h_8 => ?_)
      rw [h_8]
      have hdb : becR ρ 12 0 7 = nI d := by simp [becR, hd]
      refine g_aload_n X dX3_foresee_36 0 rfl rfl ?_
      refine g_aload_n X dX3_foresee_37 0 rfl rfl ?_
      refine g_getr X 0 (by omega) 1 (by decide) ku_X3 kv_X3 kf_X3_16 rfl lC_o_trial dX3_foresee_38 ?_
      refine g_iload_n X dX3_foresee_41 1 rfl rfl ?_
      refine g_mcallVi X 0 (c_X3_passNights l D cy ad (becR ρ 12) 6 nn d (Or.inr rfl) hdb (by omega)) kl_X3_169 ⟨rfl, rfl, Nat.le_of_ble_eq_true rfl, Nat.le_of_ble_eq_true rfl⟩ (by omega) lC_O kv_X3 rfl rfl (Nat.le_of_ble_eq_true rfl) dX3_foresee_42 ⟨Nat.le_of_ble_eq_true rfl, Nat.le_of_ble_eq_true rfl⟩ (fun r_10 ρ_9 h_11 => ?_)
      obtain ⟨er9, eρ9⟩ := h_11
      rw [eρ9]
      refine g_pop X dX3_foresee_45 rfl ?_
      refine g_aload_n X dX3_foresee_46 0 rfl rfl ?_
      refine g_getr X 0 (by omega) 1 (by decide) ku_X3 kv_X3 kf_X3_16 rfl lC_o_trial dX3_foresee_47 ?_
      refine g_iload_n X dX3_foresee_50 2 rfl rfl ?_
      refine g_mcallVi X 6 (c_X0_sumUp l D cy ad (nsR (becR ρ 12) 6 d nn) 6 k (Or.inr rfl) (by omega)) kl_X3_184 ⟨rfl, rfl, Nat.le_of_ble_eq_true rfl, Nat.le_of_ble_eq_true rfl⟩ (by omega) (lC_P (Or.inr rfl)) kv_X0 rfl rfl (Nat.le_of_ble_eq_true rfl) dX3_foresee_51 ⟨Nat.le_of_ble_eq_true rfl, Nat.le_of_ble_eq_true rfl⟩ (fun r_13 ρ_12 h_14 => ?_)
      obtain ⟨er_13, e9⟩ := h_14
      rw [e9, er_13]
      clear e9
      exact g_xiret X hr hlk (by omega) (by omega) dX3_foresee_54 (by unfold forF; rw [if_pos ibnn, if_pos ibw, exnn, exk]; unfold forR; rw [hd, show ix (nI d) = d from nI_clamp (by omega)])
    · skip
      have cB := c_5
      exact g_throw X hE hl0 (names := ["java/lang/RuntimeException", "java/lang/Exception"]) (by decide +kernel) (by decide +kernel) kk_X3_67 ki_IOB kst_179 kh_IOB_71 kh_IOB_71g dX3_foresee_15 dX3_foresee_18 dX3_foresee_19 dX3_foresee_21 dX3_foresee_24 hxt ⟨Nat.le_of_ble_eq_true rfl, Nat.le_of_ble_eq_true rfl, Nat.le_of_ble_eq_true rfl, Nat.le_of_ble_eq_true rfl⟩ hlk (Or.inr ⟨rfl, by unfold forF; rw [if_pos ibnn, if_neg (fun q => cB q.2)]⟩) (by omega) (by omega)

set_option maxHeartbeats 1000000 in
set_option maxRecDepth 100000 in
theorem c_X3_lasts (l : Launch) (hl0 : l.stackTraces = false) (D : va_G) (cy : Nat → ClassId) (ad : Nat → Nat) (ρ : Nat → Nat → Int32) (N T S d : Nat) (hI : Inv ρ N T S d) (x : Int32) : gXI l yX3_lasts cX3_lasts 3 (some .int) { frames := 7, cells := 3, slots := 18, locals := 111 } D cy 48 ad (cC ad cy) [.ref (ad 0), .int x] ρ (fun r ρ1 => lasF ρ x = (0, r, ρ1)) (xq1 "java/lang/IndexOutOfBoundsException" (lasF ρ x).1) 3 18 := by
  refine gXI_of (ls := [(0, .ref (ad 0)), (1, .int x)]) RX3 rfl (by decide +kernel) (Nat.le_of_ble_eq_true rfl) rfl ?_
  intro p e s m args below meth c A X hE hxt hr hlk
  obtain ⟨hT, hT6, hS, hS8, hd, hdN, hN, hTu, hSt, hPi, hZ⟩ := id hI
  have hwd : wdF ρ = nI (d % 7) := by unfold wdF; rw [hd, nI_clamp (by omega)]
  refine g_aload_n X dX3_lasts_0 0 rfl rfl ?_
  refine g_iload_n X dX3_lasts_1 1 rfl rfl ?_
  refine g_xcallVv X hE 0 (c_X3_checkTune l hl0 D cy ad ρ _) kl_X3_51 ⟨rfl, rfl, Nat.le_of_ble_eq_true rfl, Nat.le_of_ble_eq_true rfl⟩ (by omega) lC_O kv_X3 rfl rfl (Nat.le_of_ble_eq_true rfl) dX3_lasts_2 ⟨Nat.le_of_ble_eq_true rfl, Nat.le_of_ble_eq_true rfl⟩ (g_out hxt hlk (fun E h => ⟨h.1, by unfold lasF; rw [if_neg h.2]⟩) (by omega) (by omega)) (fun ρ_1 h_3 => ?_)
  obtain ⟨e9, ib9⟩ := h_3
  rw [e9]
  obtain ⟨t, ht, rfl⟩ := inb_N hT (by omega) ib9
  have ibt := ib9
  have ext : ix (nI t) = t := nI_clamp (by omega)
  refine g_aload_n X dX3_lasts_5 0 rfl rfl ?_
  refine g_getr X 0 (by omega) 1 (by decide) ku_X3 kv_X3 kf_X3_16 rfl lC_o_trial dX3_lasts_6 ?_
  refine g_aload_n X dX3_lasts_9 0 rfl rfl ?_
  refine g_getr X 0 (by omega) 0 (by decide) ku_X3 kv_X3 kf_X3_10 rfl lC_o_pipes dX3_lasts_10 ?_
  refine g_mcallVv X 6 (c_X0_become l D cy ad ρ (fun j hj => (hPi j hj).2.2)) kl_X3_181 ⟨rfl, rfl, Nat.le_of_ble_eq_true rfl, Nat.le_of_ble_eq_true rfl⟩ (by omega) (lC_P (Or.inr rfl)) kv_X0 rfl rfl (Nat.le_of_ble_eq_true rfl) dX3_lasts_13 ⟨Nat.le_of_ble_eq_true rfl, Nat.le_of_ble_eq_true rfl⟩ (fun ρ_4 h_6 => ?_)
  rw [h_6]
  refine g_iconst X (v := 0) dX3_lasts_16 (by decide) ?_
  refine g_istore_n X [(2, .int _), (0, .ref _), (1, .int _)] dX3_lasts_17 rfl (by decide) rfl ?_
  refine g_ls (ls' := [(0, .ref _), (1, .int _), (2, .int _)]) [1, 2, 0] rfl ?_
  refine g_loop (fun i => ∀ j, j < i → ¬ sndC (trR ρ t j) 6 t (-1) < 30) (fun i => trR ρ t i) (fun i => [(0, .ref (ad 0)), (1, .int (nI t)), (2, .int (nI i))]) (fun _ => ((0 + 1) + 0)) (fun _ => ((0 + 6) + 0)) 99 0 (fun j h => absurd h (by omega)) (by omega) rfl rfl rfl rfl (fun i h0i hi hIi ihi => ?_)
  obtain ⟨ρa, eρa⟩ : ∃ ρz, ρz = trR ρ t i := ⟨_, rfl⟩
  rw [← eρa]
  refine g_iload_n X dX3_lasts_18 2 rfl rfl ?_
  refine g_bipush X (v := 99) dX3_lasts_19 (by decide) ?_
  refine g_icmp_geN X i 99 61 (by omega) (by omega) dX3_lasts_21 (by decide) (fun c_7 => ?_) (fun c_7 => ?_)
  · skip
    have cR := c_7
    refine g_iload_n X dX3_lasts_61 2 rfl rfl ?_
    exact g_xiret X hr hlk (by omega) (by omega) dX3_lasts_62 (by unfold lasF; rw [if_pos ibt, ext, laK_spec (K := i) hi hIi (Or.inl (by omega)), eρa])
  · skip
    refine g_aload_n X dX3_lasts_24 0 rfl rfl ?_
    refine g_getr X 0 (by omega) 2 (by decide) ku_X3 kv_X3 kf_X3_21 rfl lC_o_tunes dX3_lasts_25 ?_
    refine g_iload_n X dX3_lasts_28 1 rfl rfl ?_
    refine g_aaldN X 11 t 2 (by omega) lC_tunes rfl (by omega) (by decide) dX3_lasts_29 ?_
    refine g_aload_n X dX3_lasts_30 0 rfl rfl ?_
    refine g_getr X 0 (by omega) 1 (by decide) ku_X3 kv_X3 kf_X3_16 rfl lC_o_trial dX3_lasts_31 ?_
    refine g_mcallVi X (14 + 3 * t) (c_X2_soundOf l D cy ad ρa t 6 (by omega) (Or.inr rfl)) kl_X3_156 ⟨rfl, rfl, Nat.le_of_ble_eq_true rfl, Nat.le_of_ble_eq_true rfl⟩ (by omega) (lC_T (by omega)) kv_X2 rfl rfl (Nat.le_of_ble_eq_true rfl) dX3_lasts_34 ⟨Nat.le_of_ble_eq_true rfl, Nat.le_of_ble_eq_true rfl⟩ (fun r_9 ρ_8 h_10 => ?_)
    obtain ⟨er_9, e9⟩ := h_10
    rw [e9, er_9]
    clear e9
    refine g_bipush X (v := 30) dX3_lasts_37 (by decide) ?_
    refine g_icmp_lt X 61 dX3_lasts_39 (by decide) (fun c_11 => ?_) (fun c_11 => ?_)
    · skip
      have cQ := c_11
      refine g_iload_n X dX3_lasts_61 2 rfl rfl ?_
      exact g_xiret X hr hlk (by omega) (by omega) dX3_lasts_62 (by unfold lasF; rw [if_pos ibt, ext, laK_spec (K := i) hi hIi (Or.inr (by rw [← eρa]; exact cQ)), eρa])
    · skip
      have cQ := c_11
      refine g_aload_n X dX3_lasts_42 0 rfl rfl ?_
      refine g_getr X 0 (by omega) 2 (by decide) ku_X3 kv_X3 kf_X3_21 rfl lC_o_tunes dX3_lasts_43 ?_
      refine g_iload_n X dX3_lasts_46 1 rfl rfl ?_
      refine g_aaldN X 11 t 2 (by omega) lC_tunes rfl (by omega) (by decide) dX3_lasts_47 ?_
      refine g_aload_n X dX3_lasts_48 0 rfl rfl ?_
      refine g_getr X 0 (by omega) 1 (by decide) ku_X3 kv_X3 kf_X3_16 rfl lC_o_trial dX3_lasts_49 ?_
      refine g_mcallVv X (14 + 3 * t) (c_X2_wearDown l D cy ad ρa t 6 (by omega) (Or.inr rfl)) kl_X3_127 ⟨rfl, rfl, Nat.le_of_ble_eq_true rfl, Nat.le_of_ble_eq_true rfl⟩ (by omega) (lC_T (by omega)) kv_X2 rfl rfl (Nat.le_of_ble_eq_true rfl) dX3_lasts_52 ⟨Nat.le_of_ble_eq_true rfl, Nat.le_of_ble_eq_true rfl⟩ (fun ρ_12 h_14 => ?_)
      refine g_iincN X i 2 [(2, .int _), (0, .ref _), (1, .int _)] 2 dX3_lasts_55 rfl (by decide) rfl ?_
      refine g_goto X 18 dX3_lasts_58 (by decide) ?_
      refine g_ls (ls' := [(0, .ref _), (1, .int _), (2, .int _)]) [1, 2, 0] rfl ?_
      exact g_eqv (ihi (by omega) (fun j h => by
      rcases Nat.lt_or_ge j i with q | q
      · exact hIi j q
      · rw [show j = i by omega, ← eρa]; exact cQ)) (rfl) (by subst_vars; rfl) rfl rfl

set_option maxHeartbeats 1000000 in
set_option maxRecDepth 100000 in
theorem c_X3_mean (l : Launch) (D : va_G) (cy : Nat → ClassId) (ad : Nat → Nat) (ρ : Nat → Nat → Int32) (N T S d : Nat) (hI : Inv ρ N T S d) : gMD l yX3_mean cX3_mean 3 (some .double) { frames := 4, cells := 0, slots := 0, locals := 87 } D cy 48 ad (cC ad cy) [.ref (ad 0)] ρ (fun r ρ1 => r = meaF ρ ∧ ρ1 = ρ) 0 0 := by
  refine gMD_of (ls := [(0, .ref (ad 0))]) RX3 rfl (by decide +kernel) (Nat.le_of_ble_eq_true rfl) rfl ?_
  intro p e s m args below meth c A X hr hlk hnm
  obtain ⟨hT, hT6, hS, hS8, hd, hdN, hN, hTu, hSt, hPi, hZ⟩ := id hI
  have hwd : wdF ρ = nI (d % 7) := by unfold wdF; rw [hd, nI_clamp (by omega)]
  refine g_aload_n X dX3_mean_0 0 rfl rfl ?_
  refine g_geti X 0 (by omega) 5 (by decide) ku_X3 kv_X3 kf_X3_41 rfl lC_o_tuneCount dX3_mean_1 ?_
  rw [show ρ 0 5 = nI T from hT]
  refine g_if_ne X 9 dX3_mean_4 (by decide) (fun c_1 => ?_) (fun c_1 => ?_)
  · skip
    have cA := c_1
    refine g_iconst X (v := 0) dX3_mean_9 (by decide) ?_
    refine g_istore_n X [(1, .int _), (0, .ref _)] dX3_mean_10 rfl (by decide) rfl ?_
    refine g_iconst X (v := 0) dX3_mean_11 (by decide) ?_
    refine g_istore_n X [(2, .int _), (1, .int _), (0, .ref _)] dX3_mean_12 rfl (by decide) rfl ?_
    refine g_ls (ls' := [(0, .ref _), (1, .int _), (2, .int _)]) [2, 1, 0] rfl ?_
    refine g_loop (fun _ => True) (fun _ => ρ) (fun i => [(0, .ref (ad 0)), (1, .int (sumI (fun t => sndC ρ 1 t (-1)) i)), (2, .int (nI i))]) (fun _ => 0) (fun _ => 0) T 0 trivial (by omega) rfl rfl rfl rfl (fun i h0i hi hIi ihi => ?_)
    refine g_iload_n X dX3_mean_13 2 rfl rfl ?_
    refine g_aload_n X dX3_mean_14 0 rfl rfl ?_
    refine g_geti X 0 (by omega) 5 (by decide) ku_X3 kv_X3 kf_X3_41 rfl lC_o_tuneCount dX3_mean_15 ?_
    rw [show ρ 0 5 = nI T from hT]
    refine g_icmp_geN X i T 43 (by omega) (by omega) dX3_mean_18 (by decide) (fun c_2 => ?_) (fun c_2 => ?_)
    · skip
      have hiT : i = T := by omega
      rw [hiT]
      refine g_iload_n X dX3_mean_43 1 rfl rfl ?_
      refine g_i2d X dX3_mean_44 ?_
      refine g_aload_n X dX3_mean_45 0 rfl rfl ?_
      refine g_geti X 0 (by omega) 5 (by decide) ku_X3 kv_X3 kf_X3_41 rfl lC_o_tuneCount dX3_mean_46 ?_
      rw [show ρ 0 5 = nI T from hT]
      refine g_i2d X dX3_mean_49 ?_
      refine g_ddiv X dX3_mean_50 (Inv_mean hI cA) ?_
      exact g_dret X hr hlk (by omega) (by omega) dX3_mean_51 (⟨by unfold meaF; rw [if_neg (by rw [hT]; exact cA), hT, show ix (nI T) = T from nI_clamp (by omega)], rfl⟩)
    · skip
      refine g_iload_n X dX3_mean_21 1 rfl rfl ?_
      refine g_aload_n X dX3_mean_22 0 rfl rfl ?_
      refine g_getr X 0 (by omega) 2 (by decide) ku_X3 kv_X3 kf_X3_21 rfl lC_o_tunes dX3_mean_23 ?_
      refine g_iload_n X dX3_mean_26 2 rfl rfl ?_
      refine g_aaldN X 11 i 2 (by omega) lC_tunes rfl (by omega) (by decide) dX3_mean_27 ?_
      refine g_aload_n X dX3_mean_28 0 rfl rfl ?_
      refine g_getr X 0 (by omega) 0 (by decide) ku_X3 kv_X3 kf_X3_10 rfl lC_o_pipes dX3_mean_29 ?_
      refine g_mcallVi X (14 + 3 * i) (c_X2_soundOf l D cy ad ρ i 1 (by omega) (Or.inl rfl)) kl_X3_156 ⟨rfl, rfl, Nat.le_of_ble_eq_true rfl, Nat.le_of_ble_eq_true rfl⟩ (by omega) (lC_T (by omega)) kv_X2 rfl rfl (Nat.le_of_ble_eq_true rfl) dX3_mean_32 ⟨Nat.le_of_ble_eq_true rfl, Nat.le_of_ble_eq_true rfl⟩ (fun r_4 ρ_3 h_5 => ?_)
      obtain ⟨er_4, e9⟩ := h_5
      rw [e9, er_4]
      clear e9
      refine g_iadd X dX3_mean_35 ?_
      refine g_istore_n X [(1, .int _), (0, .ref _), (2, .int _)] dX3_mean_36 rfl (by decide) rfl ?_
      refine g_iincN X i 2 [(2, .int _), (1, .int _), (0, .ref _)] 2 dX3_mean_37 rfl (by decide) rfl ?_
      refine g_goto X 13 dX3_mean_40 (by decide) ?_
      refine g_ls (ls' := [(0, .ref _), (1, .int _), (2, .int _)]) [2, 1, 0] rfl ?_
      exact g_eqv (ihi (by omega) trivial) (rfl) (rfl) rfl rfl
  · skip
    have cA := c_1
    refine g_dconst0 X dX3_mean_7 ?_
    exact g_dret X hr hlk (by omega) (by omega) dX3_mean_8 (⟨by unfold meaF; rw [if_pos (hT.trans cA)], rfl⟩)

set_option maxHeartbeats 1000000 in
set_option maxRecDepth 100000 in
theorem c_X3_digest (l : Launch) (D : va_G) (cy : Nat → ClassId) (ad : Nat → Nat) (ρ : Nat → Nat → Int32) (N T S d : Nat) (hI : Inv ρ N T S d) : gML l yX3_digest cX3_digest 5 (some .long) { frames := 6, cells := 0, slots := 0, locals := 135 } D cy 48 ad (cC ad cy) [.ref (ad 0)] ρ (fun r ρ1 => r = digF ρ ∧ ρ1 = ρ) 0 0 := by
  refine gML_of (ls := [(0, .ref (ad 0))]) RX3 rfl (by decide +kernel) (Nat.le_of_ble_eq_true rfl) rfl ?_
  intro p e s m args below meth c A X hr hlk hnm
  obtain ⟨hT, hT6, hS, hS8, hd, hdN, hN, hTu, hSt, hPi, hZ⟩ := id hI
  have hwd : wdF ρ = nI (d % 7) := by unfold wdF; rw [hd, nI_clamp (by omega)]
  refine g_ldc2 X kL_X3_187 dX3_digest_0 ?_
  refine g_lstore_n X [(1, .long _), (0, .ref _)] dX3_digest_3 rfl (by decide) rfl ?_
  refine g_iconst X (v := 0) dX3_digest_4 (by decide) ?_
  refine g_istore_n X [(3, .int _), (1, .long _), (0, .ref _)] dX3_digest_5 rfl (by decide) rfl ?_
  refine g_ls (ls' := [(0, .ref _), (1, .long _), (3, .int _)]) [2, 1, 0] rfl ?_
  refine g_loop (fun _ => True) (fun _ => ρ) (fun i => [(0, .ref (ad 0)), (1, .long (mxs (countF ρ) i 1097)), (3, .int (nI i))]) (fun _ => 0) (fun _ => 0) 9 0 trivial (by omega) rfl rfl rfl rfl (fun i h0i hi hIi ihi => ?_)
  refine g_iload_n X dX3_digest_6 2 rfl rfl ?_
  refine g_bipush X (v := 9) dX3_digest_7 (by decide) ?_
  refine g_icmp_geN X i 9 28 (by omega) (by omega) dX3_digest_9 (by decide) (fun c_1 => ?_) (fun c_1 => ?_)
  · skip
    refine g_iconst X (v := 0) dX3_digest_28 (by decide) ?_
    refine g_istore_n X [(3, .int _), (0, .ref _), (1, .long _)] dX3_digest_29 rfl (by decide) rfl ?_
    obtain rfl : i = 9 := by omega
    refine g_ls (ls' := [(0, .ref _), (1, .long _), (3, .int _)]) [1, 2, 0] rfl ?_
    refine g_loop (fun _ => True) (fun _ => ρ) (fun u => [(0, .ref (ad 0)), (1, .long (fold1 (fun i dd => mxs (fun w => tellF ρ 1 i w) 5 dd) u (mxs (countF ρ) 9 1097))), (3, .int (nI u))]) (fun _ => (0)) (fun _ => (0)) 12 0 trivial (by omega) rfl rfl rfl rfl (fun u h0u hu hIu ihu => ?_)
    refine g_iload_n X dX3_digest_30 2 rfl rfl ?_
    refine g_bipush X (v := 12) dX3_digest_31 (by decide) ?_
    refine g_icmp_geN X u 12 72 (by omega) (by omega) dX3_digest_33 (by decide) (fun c_2 => ?_) (fun c_2 => ?_)
    · skip
      refine g_iconst X (v := 0) dX3_digest_72 (by decide) ?_
      refine g_istore_n X [(3, .int _), (0, .ref _), (1, .long _)] dX3_digest_73 rfl (by decide) rfl ?_
      obtain rfl : u = 12 := by omega
      refine g_ls (ls' := [(0, .ref _), (1, .long _), (3, .int _)]) [1, 2, 0] rfl ?_
      refine g_loop (fun _ => True) (fun _ => ρ) (fun k => [(0, .ref (ad 0)), (1, .long (mxs (fun j => ρ 13 j) k (fold1 (fun i dd => mxs (fun w => tellF ρ 1 i w) 5 dd) 12 (mxs (countF ρ) 9 1097)))), (3, .int (nI k))]) (fun _ => ((0))) (fun _ => ((0))) 7 0 trivial (by omega) rfl rfl rfl rfl (fun k h0k hk hIk ihk => ?_)
      refine g_iload_n X dX3_digest_74 2 rfl rfl ?_
      refine g_bipush X (v := 7) dX3_digest_75 (by decide) ?_
      refine g_icmp_geN X k 7 97 (by omega) (by omega) dX3_digest_77 (by decide) (fun c_3 => ?_) (fun c_3 => ?_)
      · skip
        refine g_iconst X (v := 0) dX3_digest_97 (by decide) ?_
        refine g_istore_n X [(3, .int _), (0, .ref _), (1, .long _)] dX3_digest_98 rfl (by decide) rfl ?_
        obtain rfl : k = 7 := by omega
        refine g_ls (ls' := [(0, .ref _), (1, .long _), (3, .int _)]) [1, 2, 0] rfl ?_
        refine g_loop (fun _ => True) (fun _ => ρ) (fun t => [(0, .ref (ad 0)), (1, .long (fold1 (mtF ρ) t (mxs (fun j => ρ 13 j) 7 (fold1 (fun i dd => mxs (fun w => tellF ρ 1 i w) 5 dd) 12 (mxs (countF ρ) 9 1097))))), (3, .int (nI t))]) (fun _ => (((0)))) (fun _ => (((0)))) T 0 trivial (by omega) rfl rfl rfl rfl (fun t h0t ht hIt iht => ?_)
        refine g_iload_n X dX3_digest_99 2 rfl rfl ?_
        refine g_aload_n X dX3_digest_100 0 rfl rfl ?_
        refine g_geti X 0 (by omega) 5 (by decide) ku_X3 kv_X3 kf_X3_41 rfl lC_o_tuneCount dX3_digest_101 ?_
        rw [show ρ 0 5 = nI T from hT]
        refine g_icmp_geN X t T 125 (by omega) (by omega) dX3_digest_104 (by decide) (fun c_4 => ?_) (fun c_4 => ?_)
        · skip
          refine g_iconst X (v := 0) dX3_digest_125 (by decide) ?_
          refine g_istore_n X [(3, .int _), (0, .ref _), (1, .long _)] dX3_digest_126 rfl (by decide) rfl ?_
          obtain rfl : t = T := by omega
          refine g_ls (ls' := [(0, .ref _), (1, .long _), (3, .int _)]) [1, 2, 0] rfl ?_
          refine g_loop (fun _ => True) (fun _ => ρ) (fun z => [(0, .ref (ad 0)), (1, .long (fold1 (msF ρ) z (fold1 (mtF ρ) t (mxs (fun j => ρ 13 j) 7 (fold1 (fun i dd => mxs (fun w => tellF ρ 1 i w) 5 dd) 12 (mxs (countF ρ) 9 1097)))))), (3, .int (nI z))]) (fun _ => ((((0))))) (fun _ => ((((0))))) S 0 trivial (by omega) rfl rfl rfl rfl (fun z h0z hz hIz ihz => ?_)
          refine g_iload_n X dX3_digest_127 2 rfl rfl ?_
          refine g_aload_n X dX3_digest_128 0 rfl rfl ?_
          refine g_geti X 0 (by omega) 6 (by decide) ku_X3 kv_X3 kf_X3_83 rfl lC_o_streetCount dX3_digest_129 ?_
          rw [show ρ 0 6 = nI S from hS]
          refine g_icmp_geN X z S 148 (by omega) (by omega) dX3_digest_132 (by decide) (fun c_5 => ?_) (fun c_5 => ?_)
          · skip
            refine g_lload_n X dX3_digest_148 1 rfl rfl ?_
            exact g_lret X hr hlk (by omega) (by omega) dX3_digest_149 (⟨by unfold digF; rw [hT, hS, show ix (nI t) = t from nI_clamp (by omega), show ix (nI S) = S from nI_clamp (by omega), show z = S by omega], rfl⟩)
          · skip
            refine g_aload_n X dX3_digest_135 0 rfl rfl ?_
            refine g_lload_n X dX3_digest_136 1 rfl rfl ?_
            refine g_iload_n X dX3_digest_137 2 rfl rfl ?_
            refine g_mcallVl X 0 (c_X3_mixStreet l D cy ad ρ z _ _ _ (by omega) hT hT6 hd (by omega) (fun t ht => Inv_pay hI (by omega) ht)) kl_X3_197 ⟨rfl, rfl, Nat.le_of_ble_eq_true rfl, Nat.le_of_ble_eq_true rfl⟩ (by omega) lC_O kv_X3 rfl rfl (Nat.le_of_ble_eq_true rfl) dX3_digest_138 ⟨Nat.le_of_ble_eq_true rfl, Nat.le_of_ble_eq_true rfl⟩ (fun r_7 ρ_6 h_8 => ?_)
            obtain ⟨er_7, e9⟩ := h_8
            rw [e9, er_7]
            clear e9
            refine g_lstore_n X [(1, .long _), (0, .ref _), (3, .int _)] dX3_digest_141 rfl (by decide) rfl ?_
            refine g_iincN X z 3 [(3, .int _), (1, .long _), (0, .ref _)] 2 dX3_digest_142 rfl (by decide) rfl ?_
            refine g_goto X 127 dX3_digest_145 (by decide) ?_
            refine g_ls (ls' := [(0, .ref _), (1, .long _), (3, .int _)]) [2, 1, 0] rfl ?_
            exact g_eqv (ihz (by omega) trivial) (rfl) (rfl) rfl rfl
        · skip
          obtain ⟨L, hL, hL16, hLn, hLc⟩ := hTu t (by omega)
          refine g_aload_n X dX3_digest_107 0 rfl rfl ?_
          refine g_lload_n X dX3_digest_108 1 rfl rfl ?_
          refine g_aload_n X dX3_digest_109 0 rfl rfl ?_
          refine g_getr X 0 (by omega) 2 (by decide) ku_X3 kv_X3 kf_X3_21 rfl lC_o_tunes dX3_digest_110 ?_
          refine g_iload_n X dX3_digest_113 2 rfl rfl ?_
          refine g_aaldN X 11 t 2 (by omega) lC_tunes rfl (by omega) (by decide) dX3_digest_114 ?_
          refine g_mcallVl X 0 (c_X3_mixTune l D cy ad ρ t _ _ (by omega) hL hL16) kl_X3_193 ⟨rfl, rfl, Nat.le_of_ble_eq_true rfl, Nat.le_of_ble_eq_true rfl⟩ (by omega) lC_O kv_X3 rfl rfl (Nat.le_of_ble_eq_true rfl) dX3_digest_115 ⟨Nat.le_of_ble_eq_true rfl, Nat.le_of_ble_eq_true rfl⟩ (fun r_10 ρ_9 h_11 => ?_)
          obtain ⟨er_10, e9⟩ := h_11
          rw [e9, er_10]
          clear e9
          refine g_lstore_n X [(1, .long _), (0, .ref _), (3, .int _)] dX3_digest_118 rfl (by decide) rfl ?_
          refine g_iincN X t 3 [(3, .int _), (1, .long _), (0, .ref _)] 2 dX3_digest_119 rfl (by decide) rfl ?_
          refine g_goto X 99 dX3_digest_122 (by decide) ?_
          refine g_ls (ls' := [(0, .ref _), (1, .long _), (3, .int _)]) [2, 1, 0] rfl ?_
          exact g_eqv (iht (by omega) trivial) (rfl) (rfl) rfl rfl
      · skip
        refine g_lload_n X dX3_digest_80 1 rfl rfl ?_
        refine g_aload_n X dX3_digest_81 0 rfl rfl ?_
        refine g_getr X 0 (by omega) 4 (by decide) ku_X3 kv_X3 kf_X3_33 rfl lC_o_damp dX3_digest_82 ?_
        refine g_iload_n X dX3_digest_85 2 rfl rfl ?_
        refine g_ialdN X 13 k (by omega) lC_damp (by omega) (by decide) dX3_digest_86 ?_
        refine g_mcallSl X (c_X3_mix l D cy ad ρ _ _) kl_X3_189 ⟨rfl, rfl, Nat.le_of_ble_eq_true rfl, Nat.le_of_ble_eq_true rfl⟩ rfl rfl (Nat.le_of_ble_eq_true rfl) dX3_digest_87 ⟨Nat.le_of_ble_eq_true rfl, Nat.le_of_ble_eq_true rfl⟩ (fun r_13 ρ_12 h_14 => ?_)
        obtain ⟨er_13, e9⟩ := h_14
        rw [e9, er_13]
        clear e9
        refine g_lstore_n X [(1, .long _), (0, .ref _), (3, .int _)] dX3_digest_90 rfl (by decide) rfl ?_
        refine g_iincN X k 3 [(3, .int _), (1, .long _), (0, .ref _)] 2 dX3_digest_91 rfl (by decide) rfl ?_
        refine g_goto X 74 dX3_digest_94 (by decide) ?_
        refine g_ls (ls' := [(0, .ref _), (1, .long _), (3, .int _)]) [2, 1, 0] rfl ?_
        exact g_eqv (ihk (by omega) trivial) (rfl) (rfl) rfl rfl
    · skip
      refine g_iconst X (v := 0) dX3_digest_36 (by decide) ?_
      refine g_istore X [(4, .int _), (0, .ref _), (1, .long _), (3, .int _)] dX3_digest_37 (by decide) rfl ?_
      refine g_ls (ls' := [(0, .ref _), (1, .long _), (3, .int _), (4, .int _)]) [1, 2, 3, 0] rfl ?_
      refine g_loop (fun _ => True) (fun _ => ρ) (fun v => [(0, .ref (ad 0)), (1, .long (mxs (fun w => tellF ρ 1 u w) v (fold1 (fun i dd => mxs (fun w => tellF ρ 1 i w) 5 dd) u (mxs (countF ρ) 9 1097)))), (3, .int (nI u)), (4, .int (nI v))]) (fun _ => ((0))) (fun _ => ((0))) 5 0 trivial (by omega) rfl rfl rfl rfl (fun v h0v hv hIv ihv => ?_)
      refine g_iload X dX3_digest_39 3 rfl ?_
      refine g_iconst X (v := 5) dX3_digest_41 (by decide) ?_
      refine g_icmp_geN X v 5 66 (by omega) (by omega) dX3_digest_42 (by decide) (fun c_15 => ?_) (fun c_15 => ?_)
      · skip
        obtain rfl : v = 5 := by omega
        refine g_iincN X u 3 [(3, .int _), (0, .ref _), (1, .long _), (4, .int _)] 2 dX3_digest_66 rfl (by decide) rfl ?_
        refine g_goto X 30 dX3_digest_69 (by decide) ?_
        refine g_ls (ls' := [(0, .ref _), (1, .long _), (3, .int _)]) [1, 2, 0] rfl ?_
        exact g_eqv (ihu (by omega) trivial) (rfl) (rfl) rfl rfl
      · skip
        refine g_lload_n X dX3_digest_45 1 rfl rfl ?_
        refine g_aload_n X dX3_digest_46 0 rfl rfl ?_
        refine g_getr X 0 (by omega) 0 (by decide) ku_X3 kv_X3 kf_X3_10 rfl lC_o_pipes dX3_digest_47 ?_
        refine g_iload_n X dX3_digest_50 2 rfl rfl ?_
        refine g_iload X dX3_digest_51 3 rfl ?_
        refine g_mcallVi X 1 (c_X0_tell l D cy ad ρ 1 u v (Or.inl rfl) (by omega) (by omega)) kl_X3_153 ⟨rfl, rfl, Nat.le_of_ble_eq_true rfl, Nat.le_of_ble_eq_true rfl⟩ (by omega) (lC_P (Or.inl rfl)) kv_X0 rfl rfl (Nat.le_of_ble_eq_true rfl) dX3_digest_53 ⟨Nat.le_of_ble_eq_true rfl, Nat.le_of_ble_eq_true rfl⟩ (fun r_17 ρ_16 h_18 => ?_)
        obtain ⟨er_17, e9⟩ := h_18
        rw [e9, er_17]
        clear e9
        refine g_mcallSl X (c_X3_mix l D cy ad ρ _ _) kl_X3_189 ⟨rfl, rfl, Nat.le_of_ble_eq_true rfl, Nat.le_of_ble_eq_true rfl⟩ rfl rfl (Nat.le_of_ble_eq_true rfl) dX3_digest_56 ⟨Nat.le_of_ble_eq_true rfl, Nat.le_of_ble_eq_true rfl⟩ (fun r_20 ρ_19 h_21 => ?_)
        obtain ⟨er_20, e9⟩ := h_21
        rw [e9, er_20]
        clear e9
        refine g_lstore_n X [(1, .long _), (0, .ref _), (3, .int _), (4, .int _)] dX3_digest_59 rfl (by decide) rfl ?_
        refine g_iincN X v 4 [(4, .int _), (1, .long _), (0, .ref _), (3, .int _)] 3 dX3_digest_60 rfl (by decide) rfl ?_
        refine g_goto X 39 dX3_digest_63 (by decide) ?_
        refine g_ls (ls' := [(0, .ref _), (1, .long _), (3, .int _), (4, .int _)]) [2, 1, 3, 0] rfl ?_
        exact g_eqv (ihv (by omega) trivial) (rfl) (rfl) rfl rfl
  · skip
    refine g_lload_n X dX3_digest_12 1 rfl rfl ?_
    refine g_aload_n X dX3_digest_13 0 rfl rfl ?_
    refine g_iload_n X dX3_digest_14 2 rfl rfl ?_
    refine g_mcallVi X 0 (c_X3_countNow l D cy ad ρ i d (by omega) hd (by omega)) kl_X3_163 ⟨rfl, rfl, Nat.le_of_ble_eq_true rfl, Nat.le_of_ble_eq_true rfl⟩ (by omega) lC_O kv_X3 rfl rfl (Nat.le_of_ble_eq_true rfl) dX3_digest_15 ⟨Nat.le_of_ble_eq_true rfl, Nat.le_of_ble_eq_true rfl⟩ (fun r_23 ρ_22 h_24 => ?_)
    obtain ⟨er_23, e9⟩ := h_24
    rw [e9, er_23]
    clear e9
    refine g_mcallSl X (c_X3_mix l D cy ad ρ _ _) kl_X3_189 ⟨rfl, rfl, Nat.le_of_ble_eq_true rfl, Nat.le_of_ble_eq_true rfl⟩ rfl rfl (Nat.le_of_ble_eq_true rfl) dX3_digest_18 ⟨Nat.le_of_ble_eq_true rfl, Nat.le_of_ble_eq_true rfl⟩ (fun r_26 ρ_25 h_27 => ?_)
    obtain ⟨er_26, e9⟩ := h_27
    rw [e9, er_26]
    clear e9
    refine g_lstore_n X [(1, .long _), (0, .ref _), (3, .int _)] dX3_digest_21 rfl (by decide) rfl ?_
    refine g_iincN X i 3 [(3, .int _), (1, .long _), (0, .ref _)] 2 dX3_digest_22 rfl (by decide) rfl ?_
    refine g_goto X 6 dX3_digest_25 (by decide) ?_
    refine g_ls (ls' := [(0, .ref _), (1, .long _), (3, .int _)]) [2, 1, 0] rfl ?_
    exact g_eqv (ihi (by omega) trivial) (rfl) (rfl) rfl rfl
end
section
/-! The model's rows, read off the class's cells: th what it threw, a the day of its second pipes -/
def rM (ρ : gSt) (th a : Int32) : gSt := fun k j =>
  if k = 0 then (if j = 0 then th else if j = 1 then ρ 0 5 else if j = 4 then ρ 0 6 else if j = 10 then ρ 0 8 else if j = 11 then ρ 0 9 else 0)
  else if k = 1 then (if j < 6 then ρ (14 + 3 * j) 2 else 0)
  else if k = 2 then (if j < 96 then ρ (15 + 3 * (j / 16)) (j % 16) else 0)
  else if k = 3 then (if j < 8 then ρ (32 + 2 * j) 1 else 0)
  else if k = 4 then (if j < 8 then ρ (32 + 2 * j) 2 else 0)
  else if k = 5 then (if j < 8 then ρ (32 + 2 * j) 3 else 0)
  else if k = 6 then (if j < 48 then ρ (33 + 2 * (j / 6)) (j % 6) else 0)
  else if k = 7 then (if j < 7 then ρ 13 j else 0)
  else if k = 8 then (if j = 0 then ρ 0 7 else 0)
  else if k = 13 then (if j = 0 then a else 0)
  else if k < 18 then (if j < 12 then ρ (k - 7) j else 0)
  else 0
section RM
variable {ρ : gSt} {th a v : Int32} {t z k i b q : Nat}
theorem rM_many (h : t < 6) : rM ρ th a 1 t = ρ (14 + 3 * t) 2 := by simp [rM, h]
theorem rM_notes (h : t < 6) (hk : k < 16) : rM ρ th a 2 (16 * t + k) = ρ (15 + 3 * t) k := by
  simp only [rM]
  rw [if_neg (by omega), if_neg (by omega), if_pos trivial, if_pos (by omega), show (16 * t + k) / 16 = t by omega, show (16 * t + k) % 16 = k by omega]
theorem rM_lis (h : z < 8) : rM ρ th a 3 z = ρ (32 + 2 * z) 1 := by simp [rM, h]
theorem rM_per (h : z < 8) : rM ρ th a 4 z = ρ (32 + 2 * z) 2 := by simp [rM, h]
theorem rM_pai (h : z < 8) : rM ρ th a 5 z = ρ (32 + 2 * z) 3 := by simp [rM, h]
theorem rM_ply (h : z < 8) (ht : t < 6) : rM ρ th a 6 (6 * z + t) = ρ (33 + 2 * z) t := by
  simp only [rM]
  rw [if_neg (by omega), if_neg (by omega), if_neg (by omega), if_neg (by omega), if_neg (by omega), if_neg (by omega), if_pos trivial, if_pos (by omega), show (6 * z + t) / 6 = z by omega, show (6 * z + t) % 6 = t by omega]
theorem rM_dam (h : i < 7) : rM ρ th a 7 i = ρ 13 i := by simp [rM, h]
theorem rM_pip (hb : isP b) {j : Nat} (hj : 1 ≤ j ∧ j ≤ 4) (h : i < 12) : rM ρ th a (b + 7 + j) i = ρ (b + j) i := by
  rcases hb with rfl | rfl
  · simp only [rM]
    rw [if_neg (by omega), if_neg (by omega), if_neg (by omega), if_neg (by omega), if_neg (by omega), if_neg (by omega), if_neg (by omega), if_neg (by omega), if_neg (by omega), if_neg (by omega), if_pos (by omega), if_pos h, show 1 + 7 + j - 7 = 1 + j by omega]
  · simp only [rM]
    rw [if_neg (by omega), if_neg (by omega), if_neg (by omega), if_neg (by omega), if_neg (by omega), if_neg (by omega), if_neg (by omega), if_neg (by omega), if_neg (by omega), if_neg (by omega), if_pos (by omega), if_pos h, show 6 + 7 + j - 7 = 6 + j by omega]
theorem rM_w (hb : isP b) (h : i < 12) : rM ρ th a (b + 7 + 1) i = ρ (b + 1) i := rM_pip hb (by omega) h
theorem rM_o (hb : isP b) (h : i < 12) : rM ρ th a (b + 7 + 2) i = ρ (b + 2) i := rM_pip hb (by omega) h
theorem rM_c (hb : isP b) (h : i < 12) : rM ρ th a (b + 7 + 3) i = ρ (b + 3) i := rM_pip hb (by omega) h
theorem rM_s (hb : isP b) (h : i < 12) : rM ρ th a (b + 7 + 4) i = ρ (b + 4) i := rM_pip hb (by omega) h
theorem wM_thr : up2 (rM ρ th a) 0 0 v = rM ρ v a := by
  funext k j
  simp only [up2_e, rM]
  grind (splits := 30)
theorem wM_day : up2 (rM ρ th a) 8 0 v = rM (up2 ρ 0 7 v) th a := by
  funext k j
  simp only [up2_e, rM]
  grind (splits := 30)
theorem wM_day2 : up2 (rM ρ th a) 13 0 v = rM ρ th v := by
  funext k j
  simp only [up2_e, rM]
  grind (splits := 30)
theorem wM_tun : up2 (rM ρ th a) 0 1 v = rM (up2 ρ 0 5 v) th a := by
  funext k j
  simp only [up2_e, rM]
  grind (splits := 30)
theorem wM_str : up2 (rM ρ th a) 0 4 v = rM (up2 ρ 0 6 v) th a := by
  funext k j
  simp only [up2_e, rM]
  grind (splits := 30)
theorem wM_coi : up2 (rM ρ th a) 0 10 v = rM (up2 ρ 0 8 v) th a := by
  funext k j
  simp only [up2_e, rM]
  grind (splits := 30)
theorem wM_fin : up2 (rM ρ th a) 0 11 v = rM (up2 ρ 0 9 v) th a := by
  funext k j
  simp only [up2_e, rM]
  grind (splits := 30)
theorem wM_many (h : t < 6) : up2 (rM ρ th a) 1 t v = rM (up2 ρ (14 + 3 * t) 2 v) th a := by
  funext k j
  simp only [up2_e, rM]
  grind (splits := 30)
theorem wM_notes (h : t < 6) (hk : q < 16) : up2 (rM ρ th a) 2 (16 * t + q) v = rM (up2 ρ (15 + 3 * t) q v) th a := by
  funext k j
  simp only [up2_e, rM]
  grind (splits := 30)
theorem wM_lis (h : z < 8) : up2 (rM ρ th a) 3 z v = rM (up2 ρ (32 + 2 * z) 1 v) th a := by
  funext k j
  simp only [up2_e, rM]
  grind (splits := 30)
theorem wM_per (h : z < 8) : up2 (rM ρ th a) 4 z v = rM (up2 ρ (32 + 2 * z) 2 v) th a := by
  funext k j
  simp only [up2_e, rM]
  grind (splits := 30)
theorem wM_pai (h : z < 8) : up2 (rM ρ th a) 5 z v = rM (up2 ρ (32 + 2 * z) 3 v) th a := by
  funext k j
  simp only [up2_e, rM]
  grind (splits := 30)
theorem wM_ply (h : z < 8) (ht : t < 6) : up2 (rM ρ th a) 6 (6 * z + t) v = rM (up2 ρ (33 + 2 * z) t v) th a := by
  funext k j
  simp only [up2_e, rM]
  grind (splits := 30)
theorem wM_dam (h : i < 7) : up2 (rM ρ th a) 7 i v = rM (up2 ρ 13 i v) th a := by
  funext k j
  simp only [up2_e, rM]
  grind (splits := 30)
theorem wM_pip (hb : isP b) {m : Nat} (hm : 1 ≤ m ∧ m ≤ 4) (h : i < 12) : up2 (rM ρ th a) (b + 7 + m) i v = rM (up2 ρ (b + m) i v) th a := by
  rcases hb with rfl | rfl
  · funext k j
    simp only [up2_e, rM]
    grind (splits := 30)
  · funext k j
    simp only [up2_e, rM]
    grind (splits := 30)
/-- the times that a tune's pipes come are the class's own -/
theorem wM_times {t p : Nat} (h : t < 6) : rM (up2 ρ (16 + 3 * t) p v) th a = rM ρ th a := by
  funext k j
  simp only [up2_e, rM]
  grind (splits := 30)
end RM
def xAd (ad : Nat → Nat) (n q : Nat) : Nat → Nat := fun k => if k = n then q else ad k
def xCz (cz : Nat → (Nat → Int32) → va_E) (n : Nat) (cA : ClassId) (len : Nat) : Nat → (Nat → Int32) → va_E := fun k r => if k = n then .inl (cA, len, .inl r) else cz k r
def xRo (ρ : gSt) (n : Nat) : gSt := fun k => if k = n then (fun _ => 0) else ρ k
section XW
variable {p : Program} {l : Launch} {e : Env} {R : Room} {s : State} {m : MethodId} {args : Array Value} {below : List Frame} {meth : Method} {c : Code} {Q : State → Prop}
variable {cc : ByteArray} {nL : Nat} {Ts : List Cond} {own : String} {D : va_G} {cy : Nat → ClassId} {A : Nat → Prop}
variable {n : Nat} {ad : Nat → Nat} {cz : Nat → (Nat → Int32) → va_E} {ρ : gSt} {cells slots pc : Nat} {ls ls' : List (Nat × Value)} {st st0 rest : List Value}
variable {k ci j k2 len lenx q : Nat} {cA cB : ClassId}
theorem gFI_x (h : gFI cz k ci j) (hk : k ≠ n) : gFI (xCz cz n cA lenx) k ci j := fun r => by
  obtain ⟨fs, h1, h2, h3, h4⟩ := h r
  refine ⟨fs, by simp only [xCz]; rw [if_neg hk]; exact h1, h2, h3, fun v => by simp only [xCz]; rw [if_neg hk]; exact h4 v⟩
theorem gFR_x (h : gFR cz ad k ci j k2) (hk : k ≠ n) (hk2 : k2 ≠ n) : gFR (xCz cz n cA lenx) (xAd ad n q) k ci j k2 := fun r => by
  obtain ⟨fs, h1, h2⟩ := h r
  exact ⟨fs, by simp only [xCz]; rw [if_neg hk]; exact h1, by simp only [xAd]; rw [if_neg hk2]; exact h2⟩
theorem gOb_x (h : gOb cz k ci) (hk : k ≠ n) : gOb (xCz cz n cA lenx) k ci := fun r => by
  obtain ⟨fs, h1⟩ := h r
  exact ⟨fs, by simp only [xCz]; rw [if_neg hk]; exact h1⟩
theorem gAI_x (h : gAI cz cB k len) (hk : k ≠ n) : gAI (xCz cz n cA lenx) cB k len := fun r => by simp only [xCz]; rw [if_neg hk]; exact h r
theorem gAI_n : gAI (xCz cz n cA lenx) cA n lenx := fun r => by simp [xCz]
theorem gSub_x : gSub (n + 1) (xAd ad n q) (xCz cz n cA lenx) 0 n ad cz := ⟨by omega, fun j hj => by
  rw [Nat.zero_add]
  exact ⟨by simp only [xAd]; rw [if_neg (by omega)], fun r => by simp only [xCz]; rw [if_neg (by omega)]⟩⟩
theorem gWl_x : gWl (n + 1) (xAd ad n q) (xCz cz n cA lenx) (xRo ρ n) = gWl n ad cz ρ ++ [(q, .inl (cA, lenx, .inl (fun _ => 0)))] := by
  simp only [gWl, List.range_succ, List.map_append, List.map_cons, List.map_nil]
  congr 1
  · apply List.map_congr_left
    intro k hk
    have : k ≠ n := by have := List.mem_range.mp hk; omega
    simp only [xAd, xCz, xRo]
    rw [if_neg this, if_neg this, if_neg this]
  · simp [xAd, xCz, xRo]
theorem g_alen (X : gX p m c cc nL s args Ts own D cy A) (k : Nat) (t0 : Nat) {ty : FieldType} (hk : k < n) (hF : gAI cz cA k len) (ht : (gT cy)[t0]? = some (cA, ty)) (hd : decode cc pc = .ok (.arraylength, 1)) (kk : GW p l e R s m args below meth c Q nL D A n ad cz ρ cells slots (pc + 1) ls (.int (nI len) :: st)) : GW p l e R s m args below meth c Q nL D A n ad cz ρ cells slots pc ls (.ref (ad k) :: st) := fun H locs la hP hD hS hl => va_alen (x := (len, .inl (ρ k))) X.1.1 X.1.2.1 X.2.1 hP k t0 ((gWl_get hk).trans (by rw [hF (ρ k)])) ht rfl hd (kk H locs la hP hD hS hl)
theorem g_newi (X : gX p m c cc nL s args Ts own D cy A) (len : Nat) (hlen : len < 2 ^ 20) (hw : Cond.arrayClass .int ∈ wAll) (hroom : cells + 1 ≤ R.cells ∧ slots + len ≤ R.slots) (hd : decode cc pc = .ok (.newarray .int, 2)) (kk : ∀ q, GW p l e R s m args below meth c Q nL D A (n + 1) (xAd ad n q) (xCz cz n (cy 0) len) (xRo ρ n) (cells + 1) (slots + len) (pc + 2) ls (.ref (xAd ad n q n) :: st)) : GW p l e R s m args below meth c Q nL D A n ad cz ρ cells slots pc ls (.int (nI len) :: st) := fun H locs la hP hD hS hl => by
  refine va_newa (atype := .int) (a0 := (len, .inl (fun _ => 0))) X.1.1 X.1.2.1 (X.1.2.2.2.2 _ (X.2.2.2.1 _ hw)) rfl X.2.1 hP hD hS X.2.2.1 (fun _ => rfl) (fun h => nI_pos (show len < 2 ^ 31 by omega) h) (nI_clamp (by omega)) (by show len * 4 ≤ _; omega) hroom.1 hroom.2 hd (fun q cA H1 hK1 hP1 hD1 hS1 => ?_)
  have e0 : cA = cy 0 := by
    have h1 := (hK1.2 5 (cA, .int) rfl).2
    have h2 := (X.2.1.2 0 (cy 0, .int) rfl).2
    exact Option.some.inj (h1.symm.trans h2)
  subst e0
  rw [← gWl_x] at hP1 hD1
  have e9 : xAd ad n q n = q := by simp [xAd]
  have := kk q H1 locs la hP1 hD1 hS1 hl
  rw [e9] at this
  exact this
theorem g_copy (X : gX p m c cc nL s args Ts own D cy A) (k1 k2 : Nat) (hk1 : k1 < n) (hk2 : k2 < n) {index : Nat} (hw1 : Cond.methodLink own index arraycopyName ∈ wAll) (hw2 : Cond.native arraycopyName ∈ wAll) (hw3 : Cond.static arraycopyName ∈ wAll) (hw4 : Cond.initialized "java/lang/System" ∈ wAll) (h1 : gAI cz (cy 0) k1 12) (h2 : gAI cz (cy 0) k2 12) (hR : 1 ≤ R.frames ∧ (st.map fun v => v.category).sum + (nativeFrameWords "java/lang/System" "arraycopy" 5 + 11) ≤ R.locals) (hd : decode cc pc = .ok (.invokestatic index, 3)) (kk : ∀ ρ1, ρ1 = up1 ρ k2 (fun j => if j < 12 then ρ k1 j else ρ k2 j) → GW p l e R s m args below meth c Q nL D A n ad cz ρ1 cells slots (pc + 3) ls st) : GW p l e R s m args below meth c Q nL D A n ad cz ρ cells slots pc ls (.int 12 :: .int 0 :: .ref (ad k2) :: .int 0 :: .ref (ad k1) :: st) := fun H locs la hP hD hS hl => by
  refine va_copyi X.1.1 X.1.2.1 (X.1.2.2.1.trans hl.1.symm) X.1.2.2.2.1 (X.1.2.2.2.2 _ (X.2.2.2.1 _ hw1)) (X.1.2.2.2.2 _ (X.2.2.2.1 _ hw2)) (X.1.2.2.2.2 _ (X.2.2.2.1 _ hw3)) (X.1.2.2.2.2 _ (X.2.2.2.1 _ hw4)) X.2.1 hP hD hS k1 k2 0 0 ((gWl_get hk1).trans (by rw [h1 (ρ k1)])) ((gWl_get hk2).trans (by rw [h2 (ρ k2)])) rfl rfl rfl (by decide) (by decide) (by decide) (by decide) (by decide) (fun i _ => rfl) hR.1 hR.2 hd (fun H1 locs1 hP1 hD1 hS1 => ?_)
  have e8 : va_cpy (ρ k1) (ρ k2) (0 : Int32).toNatClampNeg (0 : Int32).toNatClampNeg (12 : Int32).toNatClampNeg = fun j => if j < 12 then ρ k1 j else ρ k2 j := by
    funext j
    show (if 0 ≤ j ∧ j < 0 + 12 then ρ k1 (0 + (j - 0)) else ρ k2 j) = _
    by_cases hj : j < 12
    · rw [if_pos ⟨Nat.zero_le _, by omega⟩, if_pos hj, Nat.sub_zero, Nat.zero_add]
    · rw [if_neg (by omega), if_neg hj]
  rw [e8, gWl_set hk2 (h2 _).symm] at hP1 hD1
  exact kk _ rfl H1 locs1 la hP1 hD1 hS1 hl
variable {y : MethodName} {rm : Room} {bytes : ByteArray} {maxL nA index mc ms : Nat} {ret : Option FieldType} {C : String} {T : u_T} {N : Nat} {As : List Value}
variable {n' : Nat} {ad' : Nat → Nat} {cz' : Nat → (Nat → Int32) → va_E}
/-- a call that changes nothing, on some of the cells -/
theorem g_pureVi (X : gX p m c cc nL s args Ts own D cy A) {post : Int32 → gSt → Prop} (σ : gSt) (hσ : ∀ j, j < n' → cz' j (ρ (0 + j)) = cz' j (σ j)) (k0 : Nat) (hM : gMI l y bytes maxL ret rm D cy n' ad' cz' (.ref (ad k0) :: As) σ post mc ms) (hL : gLkV own index C y bytes maxL ret nA) (hR : rm.cells = mc ∧ rm.slots = ms ∧ rm.frames + 1 ≤ R.frames ∧ 8 + (maxL + 11) + rm.locals ≤ R.locals) (hs : gSub n ad cz 0 n' ad' cz') (hk0 : k0 < n) (hO : gOb cz k0 ci) (hc : vwCl[ci]? = some (C, T, N)) (hn : As.length = nA) (hst : st0 = As.reverse ++ .ref (ad k0) :: rest) (hcat : (rest.map fun v => v.category).sum ≤ 8) (hd : decode cc pc = .ok (.invokevirtual index, 3)) (hroom : cells + mc ≤ R.cells ∧ slots + ms ≤ R.slots) (hpure : ∀ r ρ1, post r ρ1 → ρ1 = σ) (kk : ∀ r : Int32, post r σ → GW p l e R s m args below meth c Q nL D A n ad cz ρ (cells + mc) (slots + ms) (pc + 3) ls (.int r :: rest)) : GW p l e R s m args below meth c Q nL D A n ad cz ρ cells slots pc ls st0 := by
  intro H locs la hP hD hS hl
  have hfree := gA_sub hs hD hS X.2.2.1
  obtain ⟨fs9, hfs9⟩ := hO (ρ k0)
  exact va_calli (va_runV X.1 (hM H.size) (gCwV X.1.2.2.2.2 X.2.2.2.1 hL hR) ⟨gPc_blind, va_recv X.2.1 hP hc ((gWl_get hk0).trans (by rw [hfs9])), fun U hU hW => ⟨rfl, by rw [hU], by rw [hU]; exact gP_congr hσ (gP_sub hs hP), va_K.moved hW.alike X.2.1, gInj_sub hs (gD_inj hD), gNst_warm hW X.2.2.2.2⟩⟩ rfl hn hl.1 hst (lv_room hcat) hd hroom) hS (fun q _ h => hfree q h) hfree (fun r ρ1 t H1 locs1 ht hvm hw hB hz1 hk1 hS1 => by
    have e1 := hpure r ρ1 hw
    subst e1
    have hB1 : va_P D vwCl (gWl n' ad' cz' ρ1) H1 := by rw [← ht]; exact hB
    refine kk r hw H1 locs1 la (gP_congr (fun k hk => ?_) (gP_back hs (gD_inj hD) hP hk1 hB1)) (gD_of (gD_inj hD) (fun _ hk => gD_in hD hk)) hS1 hl
    simp only [gBack]
    by_cases hk9 : 0 ≤ k ∧ k < 0 + n'
    · rw [if_pos hk9, Nat.sub_zero]
      have h1 := hσ k (by omega)
      have h2 := (hs.2 k (by omega)).2
      rw [Nat.zero_add] at h1 h2
      rw [← h2, ← h2, h1]
    · rw [if_neg hk9])
end XW
end
section
theorem zz_last : True := trivial
end
